theorem wdX12_takes_0 : decode cX12_takes 0 = .ok (.iload_n 1, 1) := dq0 kk_27 (by decide +kernel)
theorem wdX12_takes_1 : decode cX12_takes 1 = .ok (.ifCond .le 18, 3) := dqT kk_158 (by decide +kernel)
theorem wdX12_takes_19 : decode cX12_takes 19 = .ok (.iload_n 1, 1) := dq0 kk_27 (by decide +kernel)
theorem wdX12_takes_20 : decode cX12_takes 20 = .ok (.ireturn, 1) := dq0 kk_172 (by decide +kernel)
theorem wdX12_takes_4 : decode cX12_takes 4 = .ok (.aload_n 0, 1) := dq0 kk_42 (by decide +kernel)
theorem wdX12_takes_5 : decode cX12_takes 5 = .ok (.invokevirtual 242, 3) := dqV kk_182 (by decide +kernel)
theorem wdX12_takes_8 : decode cX12_takes 8 = .ok (.aload_n 0, 1) := dq0 kk_42 (by decide +kernel)
theorem wdX12_takes_9 : decode cX12_takes 9 = .ok (.getfield 13, 3) := dqV kk_180 (by decide +kernel)
theorem wdX12_takes_12 : decode cX12_takes 12 = .ok (.aload_n 0, 1) := dq0 kk_42 (by decide +kernel)
theorem wdX12_takes_13 : decode cX12_takes 13 = .ok (.getfield 17, 3) := dqV kk_180 (by decide +kernel)
theorem wdX12_takes_16 : decode cX12_takes 16 = .ok (.invokestatic 162, 3) := dqV kk_184 (by decide +kernel)
set_option maxRecDepth 4000 in
theorem m_takes {l : Launch} {D : va_G} {B : Nat} {cy : Nat → ClassId} {M : Mem} {Ps : Nat → Nat → Int} {mr k q hv ed : Nat} {o : Wo} {Hs : Nat → Fw} (hS : MS M Ps mr (q, hv, ed, o) Hs k) {cc : Nat} {o2 : Wo} {z9 : Int} (hR : RW M q hv ed o2 z9) (hcc : cc ≤ 1000000) : Ci l D B cy yX12_takes cX12_takes 2 (some .int) 1 22 [.ref (B + 146), .int (zI (cc : Int))] M (fun r M1 => r = zI ((cc : Nat) : Int) ∧ ((0 < cc ∧ MS M1 Ps mr (q, hv, ed, o2) (phH Hs k (q, hv, ed, o)) (phK k) ∧ FR M1 M) ∨ (cc = 0 ∧ M1 = M))) := by
  refine s_any (by decide) (Nat.le_of_ble_eq_true rfl) ?_
  intro p e s m below meth c ls F hr hlocks w hl
  have F : CallFix p m c cX12_takes 2 s _ TB RX12 := F
  have hx := F.1
  have hb := F.2.1
  have hl : lv_has ls 2 [(0, .ref (B + 146)), (1, .int (zI (cc : Int)))] := hl
  have hm8 := hS.1.1
  have hk12 := hS.2.2.2.2.1
  have hC : TW M q hv ed o := hS.T
  have hW : isR M 147 o.1 q hv ed o.2.1 o.2.2 := hC.1
  have hwf := hC.wf
  have hKL := hwf.2.2.2.2
  have hn12 := hwf.1
  have hq12 := hwf.2.1
  have hhv := hwf.2.2.1
  have hed := hwf.2.2.2.1
  refine lv_iload_n hx hb wdX12_takes_0 rfl (lv_at hl 1 rfl) ?_
  refine z_if_le (tgt := 19) hx hb (by omega) wdX12_takes_1 (by decide) (fun c1 => ?_) (fun c1 => ?_)
  · refine lv_iload_n hx hb wdX12_takes_19 rfl (lv_at hl 1 rfl) ?_
    exact e_i F w hr hlocks ⟨rfl, Or.inr ⟨by omega, rfl⟩⟩ wdX12_takes_20
  · refine lv_aload_n hx hb wdX12_takes_4 rfl (lv_at hl 0 rfl) ?_
    refine k_Vv F w (As := []) (rest := []) (a := 146) (kd_lt (a := 146) (show kd 146 = (12, 0, 0) from rfl) (by decide)) (sh_12 rfl _ _) rfl (m_keeps hS) wgv_X12_242 whv_X12_keeps ⟨(Nat.le_of_ble_eq_true rfl), (Nat.le_of_ble_eq_true rfl)⟩ hl.1 rfl (Nat.le_of_ble_eq_true rfl) ⟨Nat.zero_le _, Nat.zero_le _⟩ wdX12_takes_5 (fun Ma2 H locs hp w => ?_)
    rcases hp with ⟨hS1, hB1⟩
    have hC1 : TW Ma2 q hv ed o := hS1.T
    have hW1 : isR Ma2 147 o.1 q hv ed o.2.1 o.2.2 := hC1.1
    refine lv_aload_n hx hb wdX12_takes_8 rfl (lv_at hl 0 rfl) ?_
    refine f_12_1 F w (a := 146) rfl wtb_179 wdX12_takes_9 ?_
    refine lv_aload_n hx hb wdX12_takes_12 rfl (lv_at hl 0 rfl) ?_
    refine f_12_2 F w (a := 146) rfl wtb_102 wdX12_takes_13 ?_
    refine k_Sv F w (As := [.ref (B + 147), .ref (B + 148)]) (rest := []) (s_X12_copy (a := 147) (b := 148) rfl rfl (by decide) (isR.fk hR.1 hB1) hR.wf) wgs_X12_162 whs_X12_copy ⟨(Nat.le_of_ble_eq_true rfl), (Nat.le_of_ble_eq_true rfl)⟩ hl.1 rfl (Nat.le_of_ble_eq_true rfl) ⟨Nat.zero_le _, Nat.zero_le _⟩ wdX12_takes_16 (fun Ma3 H locs hp w => ?_)
    rcases hp with ⟨hW2, hF2⟩
    refine lv_iload_n hx hb wdX12_takes_19 rfl (lv_at hl 1 rfl) ?_
    exact e_i F w hr hlocks ⟨rfl, Or.inl ⟨by omega, hS1.told hF2 hW2 ⟨hR.2.1, hR.2.2.1, hR.2.2.2.1⟩, FR.of hB1 hF2⟩⟩ wdX12_takes_20
theorem wdX12_isRule_0 : decode cX12_isRule 0 = .ok (.iload_n 1, 1) := rdX12_isRule_0
theorem wdX12_isRule_1 : decode cX12_isRule 1 = .ok (.iconst 0, 1) := rdX12_isRule_1
theorem wdX12_isRule_2 : decode cX12_isRule 2 = .ok (.aload_n 0, 1) := rdX12_isRule_2
theorem wdX12_isRule_3 : decode cX12_isRule 3 = .ok (.getfield 239, 3) := rdX12_isRule_3
theorem wtb_291 : Cond.fieldLink "ToneLinesModel" 239 "ToneLinesModel" "ruleMany" "I" ∈ TB := rtb_165
theorem wdX12_isRule_6 : decode cX12_isRule 6 = .ok (.iconst 1, 1) := rdX12_isRule_6
theorem wdX12_isRule_7 : decode cX12_isRule 7 = .ok (.isub, 1) := rdX12_isRule_7
theorem wdX12_isRule_8 : decode cX12_isRule 8 = .ok (.invokestatic 55, 3) := rdX12_isRule_8
theorem wdX12_isRule_11 : decode cX12_isRule 11 = .ok (.ireturn, 1) := rdX12_isRule_11
set_option maxRecDepth 4000 in
theorem m_isRule {l : Launch} {D : va_G} {B : Nat} {cy : Nat → ClassId} {M : Mem} {Ps : Nat → Nat → Int} {mr k q hv ed : Nat} {o : Wo} {Hs : Nat → Fw} (hS : MS M Ps mr (q, hv, ed, o) Hs k) {r9 : Int} (hr9 : rg r9) : Ci l D B cy yX12_isRule cX12_isRule 2 (some .boolean) 1 22 [.ref (B + 146), .int (zI r9)] M (fun r M1 => ((0 ≤ r9 ∧ r9 < (mr : Int)) ∧ r = zI 1 ∨ ¬ (0 ≤ r9 ∧ r9 < (mr : Int)) ∧ r = zI 0) ∧ M1 = M) := by
  refine s_any (by decide) (Nat.le_of_ble_eq_true rfl) ?_
  intro p e s m below meth c ls F hr hlocks w hl
  have F : CallFix p m c cX12_isRule 2 s _ TB RX12 := F
  have hx := F.1
  have hb := F.2.1
  have hl : lv_has ls 2 [(0, .ref (B + 146)), (1, .int (zI r9))] := hl
  have hm8 := hS.1.1
  have hk12 := hS.2.2.2.2.1
  have hC : TW M q hv ed o := hS.T
  have hW : isR M 147 o.1 q hv ed o.2.1 o.2.2 := hC.1
  have hwf := hC.wf
  have hKL := hwf.2.2.2.2
  have hn12 := hwf.1
  have hq12 := hwf.2.1
  have hhv := hwf.2.2.1
  have hed := hwf.2.2.2.1
  refine lv_iload_n hx hb wdX12_isRule_0 rfl (lv_at hl 1 rfl) ?_
  refine lv_iconst (v := zI 0) hx hb wdX12_isRule_1 rfl ?_
  refine lv_aload_n hx hb wdX12_isRule_2 rfl (lv_at hl 0 rfl) ?_
  refine f_12_5 F w (a := 146) rfl wtb_291 wdX12_isRule_3 ?_
  refine r_val (v := (zI (mr : Int))) (hS.2.1) ?_
  refine lv_iconst (v := zI 1) hx hb wdX12_isRule_6 rfl ?_
  refine z_isub (z := ((mr : Int) - 1)) hx hb wdX12_isRule_7 (by omega) ?_
  refine k_Si F w (As := [.int (zI r9), .int (zI 0), .int (zI ((mr : Int) - 1))]) (rest := []) (s_X12_in (v := r9) (a := 0) (b := ((mr : Int) - 1)) (by omega) (by omega) (by omega)) wgs_X12_55 whs_X12_in ⟨(Nat.le_of_ble_eq_true rfl), (Nat.le_of_ble_eq_true rfl)⟩ hl.1 rfl (Nat.le_of_ble_eq_true rfl) ⟨Nat.zero_le _, Nat.zero_le _⟩ wdX12_isRule_8 (fun r Ma2 H locs hp w => ?_)
  rcases hp with ⟨⟨hb1, rfl⟩ | ⟨hb1, rfl⟩, hMe⟩
  · rw [hMe] at w
    exact e_z F w hr hlocks (nar_z (by omega)) ⟨Or.inl ⟨by omega, rfl⟩, rfl⟩ wdX12_isRule_11
  · rw [hMe] at w
    exact e_z F w hr hlocks (nar_z (by omega)) ⟨Or.inr ⟨by omega, rfl⟩, rfl⟩ wdX12_isRule_11
theorem wdX12_does_0 : decode cX12_does 0 = .ok (.aload_n 0, 1) := dq0 kk_42 (by decide +kernel)
theorem wdX12_does_1 : decode cX12_does 1 = .ok (.iload_n 1, 1) := dq0 kk_27 (by decide +kernel)
theorem wdX12_does_2 : decode cX12_does 2 = .ok (.invokevirtual 249, 3) := dqV kk_182 (by decide +kernel)
theorem wtk_X12_isRule : Cond.code yX12_isRule cX12_isRule 2 (some .boolean) ∈ TB := rtk_X12_isRule
theorem wgc_X12_isRule : GoodIn TB (cw yX12_isRule cX12_isRule 2 (some .boolean)) := goodIn_c2 wtk_X12_isRule
theorem wtb_292 : Cond.methodLink "ToneLinesModel" 249 yX12_isRule ∈ TB := rtb_174
theorem wtb_293 : Cond.instanceMethod yX12_isRule ∈ TB := rtb_175
theorem wtb_294 : Cond.selects "ToneLinesModel" yX12_isRule yX12_isRule ∈ TB := rtb_176
theorem wgv_X12_249 : GoodIn TB (wsV RX12 249 RX12 yX12_isRule (cw yX12_isRule cX12_isRule 2 (some .boolean))) := goodIn_4 wtb_292 wtb_293 wtb_294 wtb_105 wgc_X12_isRule
theorem whv_X12_isRule : yX12_isRule.cls = RX12 ∧ yX12_isRule.cls ≠ "java/lang/invoke/MethodHandle" ∧ yX12_isRule.cls ≠ "java/lang/invoke/VarHandle" ∧ (parseMethodDescriptor yX12_isRule.desc).map (fun d => d.parameters.length) = some 1 := rhv_X12_isRule
theorem wdX12_does_5 : decode cX12_does 5 = .ok (.ifCond .ne 5, 3) := dqT kk_154 (by decide +kernel)
theorem wdX12_does_10 : decode cX12_does 10 = .ok (.aload_n 0, 1) := dq0 kk_42 (by decide +kernel)
theorem wdX12_does_11 : decode cX12_does 11 = .ok (.getfield 17, 3) := dqV kk_180 (by decide +kernel)
theorem wdX12_does_14 : decode cX12_does 14 = .ok (.aload_n 0, 1) := dq0 kk_42 (by decide +kernel)
theorem wdX12_does_15 : decode cX12_does 15 = .ok (.getfield 13, 3) := dqV kk_180 (by decide +kernel)
theorem wdX12_does_18 : decode cX12_does 18 = .ok (.invokestatic 162, 3) := dqV kk_184 (by decide +kernel)
theorem wdX12_does_21 : decode cX12_does 21 = .ok (.aload_n 0, 1) := dq0 kk_42 (by decide +kernel)
theorem wdX12_does_22 : decode cX12_does 22 = .ok (.aload_n 0, 1) := dq0 kk_42 (by decide +kernel)
theorem wdX12_does_23 : decode cX12_does 23 = .ok (.iload_n 1, 1) := dq0 kk_27 (by decide +kernel)
theorem wdX12_does_24 : decode cX12_does 24 = .ok (.invokevirtual 166, 3) := dqV kk_182 (by decide +kernel)
theorem wdX12_does_27 : decode cX12_does 27 = .ok (.invokevirtual 252, 3) := dqV kk_182 (by decide +kernel)
theorem wtk_X12_takes : Cond.code yX12_takes cX12_takes 2 (some .int) ∈ TB := tbm (tc6 (List.mem_of_getElem? (i := 133) rfl)) rfl
theorem wgc_X12_takes : GoodIn TB (cw yX12_takes cX12_takes 2 (some .int)) := goodIn_c2 wtk_X12_takes
theorem wtb_295 : Cond.methodLink "ToneLinesModel" 252 yX12_takes ∈ TB := tbm (tc6 (List.mem_of_getElem? (i := 130) rfl)) rfl
theorem wtb_296 : Cond.instanceMethod yX12_takes ∈ TB := tbm (tc6 (List.mem_of_getElem? (i := 132) rfl)) rfl
theorem wtb_297 : Cond.selects "ToneLinesModel" yX12_takes yX12_takes ∈ TB := tbp (List.mem_of_getElem? (i := 70) rfl) rfl
theorem wgv_X12_252 : GoodIn TB (wsV RX12 252 RX12 yX12_takes (cw yX12_takes cX12_takes 2 (some .int))) := goodIn_4 wtb_295 wtb_296 wtb_297 wtb_105 wgc_X12_takes
theorem whv_X12_takes : yX12_takes.cls = RX12 ∧ yX12_takes.cls ≠ "java/lang/invoke/MethodHandle" ∧ yX12_takes.cls ≠ "java/lang/invoke/VarHandle" ∧ (parseMethodDescriptor yX12_takes.desc).map (fun d => d.parameters.length) = some 1 := by decide +kernel
theorem wdX12_does_30 : decode cX12_does 30 = .ok (.ireturn, 1) := dq0 kk_172 (by decide +kernel)
theorem wdX12_does_8 : decode cX12_does 8 = .ok (.iconst (-1), 1) := dq0 kk_2 (by decide +kernel)
theorem wdX12_does_9 : decode cX12_does 9 = .ok (.ireturn, 1) := dq0 kk_172 (by decide +kernel)
set_option maxRecDepth 4000 in
theorem m_does {l : Launch} {D : va_G} {B : Nat} {cy : Nat → ClassId} {M : Mem} {Ps : Nat → Nat → Int} {mr k q hv ed : Nat} {o : Wo} {Hs : Nat → Fw} (hS : MS M Ps mr (q, hv, ed, o) Hs k) {r9 : Int} (hr9 : rg r9) : Ci l D B cy yX12_does cX12_does 2 (some .int) 8 189 [.ref (B + 146), .int (zI r9)] M (fun r M1 => (∃ (rn : Nat) (o2 : Wo) (dd pp : Nat), r9 = (rn : Int) ∧ rn < mr ∧ pfF (Ps rn) q hv ed 20 o = (o2, dd, pp) ∧ r = zI ((dd : Nat) : Int) ∧ dd ≤ 37680 ∧ ((0 < dd ∧ MS M1 Ps mr (q, hv, ed, o2) (phH Hs k (q, hv, ed, o)) (phK k)) ∨ (dd = 0 ∧ MS M1 Ps mr (q, hv, ed, o) Hs k)) ∧ FR M1 M) ∨ (¬ (0 ≤ r9 ∧ r9 < (mr : Int)) ∧ r = zI (-1) ∧ M1 = M)) := by
  refine s_any (by decide) (Nat.le_of_ble_eq_true rfl) ?_
  intro p e s m below meth c ls F hr hlocks w hl
  have F : CallFix p m c cX12_does 2 s _ TB RX12 := F
  have hx := F.1
  have hb := F.2.1
  have hl : lv_has ls 2 [(0, .ref (B + 146)), (1, .int (zI r9))] := hl
  have hm8 := hS.1.1
  have hk12 := hS.2.2.2.2.1
  have hC : TW M q hv ed o := hS.T
  have hW : isR M 147 o.1 q hv ed o.2.1 o.2.2 := hC.1
  have hwf := hC.wf
  have hKL := hwf.2.2.2.2
  have hn12 := hwf.1
  have hq12 := hwf.2.1
  have hhv := hwf.2.2.1
  have hed := hwf.2.2.2.1
  refine lv_aload_n hx hb wdX12_does_0 rfl (lv_at hl 0 rfl) ?_
  refine lv_iload_n hx hb wdX12_does_1 rfl (lv_at hl 1 rfl) ?_
  refine k_Vi F w (As := [.int (zI r9)]) (rest := []) (a := 146) (kd_lt (a := 146) (show kd 146 = (12, 0, 0) from rfl) (by decide)) (sh_12 rfl _ _) rfl (m_isRule hS (r9 := r9) (by omega)) wgv_X12_249 whv_X12_isRule ⟨(Nat.le_of_ble_eq_true rfl), (Nat.le_of_ble_eq_true rfl)⟩ hl.1 rfl (Nat.le_of_ble_eq_true rfl) ⟨Nat.zero_le _, Nat.zero_le _⟩ wdX12_does_2 (fun r Ma2 H locs hp w => ?_)
  rcases hp with ⟨⟨hb1, rfl⟩ | ⟨hb1, rfl⟩, hMe⟩
  · rw [hMe] at w
    refine z_if_ne (tgt := 10) hx hb (by omega) wdX12_does_5 (by decide) (fun c3 => ?_) (fun c3 => False.elim (by omega))
    obtain ⟨rn, rfl⟩ : ∃ n9 : Nat, r9 = (n9 : Int) := ⟨Int.toNat r9, by omega⟩
    refine lv_aload_n hx hb wdX12_does_10 rfl (lv_at hl 0 rfl) ?_
    refine f_12_2 F w (a := 146) rfl wtb_102 wdX12_does_11 ?_
    refine lv_aload_n hx hb wdX12_does_14 rfl (lv_at hl 0 rfl) ?_
    refine f_12_1 F w (a := 146) rfl wtb_179 wdX12_does_15 ?_
    refine k_Sv F w (As := [.ref (B + 148), .ref (B + 147)]) (rest := []) (s_X12_copy (a := 148) (b := 147) rfl rfl (by decide) hW hwf) wgs_X12_162 whs_X12_copy ⟨(Nat.le_of_ble_eq_true rfl), (Nat.le_of_ble_eq_true rfl)⟩ hl.1 rfl (Nat.le_of_ble_eq_true rfl) ⟨Nat.zero_le _, Nat.zero_le _⟩ wdX12_does_18 (fun Ma4 H locs hp w => ?_)
    rcases hp with ⟨hW2, hF2⟩
    obtain ⟨z9, hR⟩ := RW.of hW2 hC
    have hS2 := hS.fw (FrQ9.of1 hF2)
    refine lv_aload_n hx hb wdX12_does_21 rfl (lv_at hl 0 rfl) ?_
    refine lv_aload_n hx hb wdX12_does_22 rfl (lv_at hl 0 rfl) ?_
    refine lv_iload_n hx hb wdX12_does_23 rfl (lv_at hl 1 rfl) ?_
    refine k_Vi F w (As := [.int (zI (rn : Int))]) (rest := [.ref (B + 146)]) (a := 146) (kd_lt (a := 146) (show kd 146 = (12, 0, 0) from rfl) (by decide)) (sh_12 rfl _ _) rfl (s_X12_works hR (r := rn) (by omega) (hS2.1.2 rn (by omega)).1 (hS2.1.2 rn (by omega)).2) wgv_X12_166 whv_X12_works ⟨(Nat.le_of_ble_eq_true rfl), (Nat.le_of_ble_eq_true rfl)⟩ hl.1 rfl (Nat.le_of_ble_eq_true rfl) ⟨Nat.zero_le _, Nat.zero_le _⟩ wdX12_does_24 (fun r Ma5 H locs hp w => ?_)
    rcases hp with ⟨oT, dT, pT, eT, rfl, ⟨zT, hRT⟩, hFT, hpT, hdT, _⟩
    have hS3 := hS2.fw hFT
    refine k_Vi F w (As := [.int (zI (dT : Int))]) (rest := []) (a := 146) (kd_lt (a := 146) (show kd 146 = (12, 0, 0) from rfl) (by decide)) (sh_12 rfl _ _) rfl (m_takes hS3 (cc := dT) hRT (by omega)) wgv_X12_252 whv_X12_takes ⟨(Nat.le_of_ble_eq_true rfl), (Nat.le_of_ble_eq_true rfl)⟩ hl.1 rfl (Nat.le_of_ble_eq_true rfl) ⟨Nat.zero_le _, Nat.zero_le _⟩ wdX12_does_27 (fun r Ma6 H locs hp w => ?_)
    rcases hp with ⟨rfl, ⟨hd0, hS4, hA4⟩ | ⟨hd0, hMe⟩⟩
    · exact e_i F w hr hlocks (Or.inl ⟨rn, oT, dT, pT, rfl, by omega, eT, rfl, hdT, Or.inl ⟨hd0, hS4⟩, FR.tr (FR.tr (FR.f1 hF2 (by decide)) (FR.q hFT)) hA4⟩) wdX12_does_30
    · rw [hMe] at w
      exact e_i F w hr hlocks (Or.inl ⟨rn, oT, dT, pT, rfl, by omega, eT, rfl, hdT, Or.inr ⟨hd0, hS3⟩, FR.tr (FR.f1 hF2 (by decide)) (FR.q hFT)⟩) wdX12_does_30
  · rw [hMe] at w
    refine z_if_ne (tgt := 10) hx hb (by omega) wdX12_does_5 (by decide) (fun c7 => False.elim (by omega)) (fun c7 => ?_)
    refine lv_iconst (v := zI (-1)) hx hb wdX12_does_8 rfl ?_
    exact e_i F w hr hlocks (Or.inr ⟨by omega, rfl, rfl⟩) wdX12_does_9
theorem wdX12_derive_0 : decode cX12_derive 0 = .ok (.iload_n 1, 1) := dq0 kk_27 (by decide +kernel)
theorem wdX12_derive_1 : decode cX12_derive 1 = .ok (.iconst 0, 1) := dq0 kk_3 (by decide +kernel)
theorem wdX12_derive_2 : decode cX12_derive 2 = .ok (.aload_n 0, 1) := dq0 kk_42 (by decide +kernel)
theorem wdX12_derive_3 : decode cX12_derive 3 = .ok (.getfield 239, 3) := dqV kk_180 (by decide +kernel)
theorem wdX12_derive_6 : decode cX12_derive 6 = .ok (.invokestatic 55, 3) := dqV kk_184 (by decide +kernel)
theorem wdX12_derive_9 : decode cX12_derive 9 = .ok (.ifCond .eq 15, 3) := dqT kk_153 (by decide +kernel)
theorem wdX12_derive_12 : decode cX12_derive 12 = .ok (.aload_n 0, 1) := dq0 kk_42 (by decide +kernel)
theorem wdX12_derive_13 : decode cX12_derive 13 = .ok (.aload_n 0, 1) := dq0 kk_42 (by decide +kernel)
theorem wdX12_derive_14 : decode cX12_derive 14 = .ok (.iload_n 1, 1) := dq0 kk_27 (by decide +kernel)
theorem wdX12_derive_15 : decode cX12_derive 15 = .ok (.invokevirtual 255, 3) := dqV kk_182 (by decide +kernel)
theorem wtk_X12_derives : Cond.code yX12_derives cX12_derives 4 (some .int) ∈ TB := tbm (tc6 (List.mem_of_getElem? (i := 141) rfl)) rfl
theorem wgc_X12_derives : GoodIn TB (cw yX12_derives cX12_derives 4 (some .int)) := goodIn_c2 wtk_X12_derives
theorem wtb_298 : Cond.methodLink "ToneLinesModel" 255 yX12_derives ∈ TB := tbm (tc6 (List.mem_of_getElem? (i := 138) rfl)) rfl
theorem wtb_299 : Cond.instanceMethod yX12_derives ∈ TB := tbm (tc6 (List.mem_of_getElem? (i := 140) rfl)) rfl
theorem wtb_300 : Cond.selects "ToneLinesModel" yX12_derives yX12_derives ∈ TB := tbp (List.mem_of_getElem? (i := 71) rfl) rfl
theorem wgv_X12_255 : GoodIn TB (wsV RX12 255 RX12 yX12_derives (cw yX12_derives cX12_derives 4 (some .int))) := goodIn_4 wtb_298 wtb_299 wtb_300 wtb_105 wgc_X12_derives
theorem whv_X12_derives : yX12_derives.cls = RX12 ∧ yX12_derives.cls ≠ "java/lang/invoke/MethodHandle" ∧ yX12_derives.cls ≠ "java/lang/invoke/VarHandle" ∧ (parseMethodDescriptor yX12_derives.desc).map (fun d => d.parameters.length) = some 1 := by decide +kernel
theorem wdX12_derive_18 : decode cX12_derive 18 = .ok (.invokevirtual 252, 3) := dqV kk_182 (by decide +kernel)
theorem wdX12_derive_21 : decode cX12_derive 21 = .ok (.goto 4, 3) := dqT kk_167 (by decide +kernel)
theorem wdX12_derive_25 : decode cX12_derive 25 = .ok (.ireturn, 1) := dq0 kk_172 (by decide +kernel)
theorem wdX12_derive_24 : decode cX12_derive 24 = .ok (.iconst (-1), 1) := dq0 kk_2 (by decide +kernel)
set_option maxRecDepth 4000 in
theorem m_derive {l : Launch} {D : va_G} {B : Nat} {cy : Nat → ClassId} {M : Mem} {Ps : Nat → Nat → Int} {mr k q hv ed : Nat} {o : Wo} {Hs : Nat → Fw} (hS : MS M Ps mr (q, hv, ed, o) Hs k) {r9 : Int} (hr9 : rg r9) : Ci l D B cy yX12_derive cX12_derive 2 (some .int) 9 212 [.ref (B + 146), .int (zI r9)] M (fun r M1 => (∃ (nn : Nat) (o2 : Wo) (dd : Nat), r9 = (nn : Int) ∧ nn ≤ mr ∧ dvF Ps q hv ed nn o = (o2, dd) ∧ r = zI ((dd : Nat) : Int) ∧ dd ≤ 400000 ∧ ((0 < dd ∧ MS M1 Ps mr (q, hv, ed, o2) (phH Hs k (q, hv, ed, o)) (phK k)) ∨ (dd = 0 ∧ MS M1 Ps mr (q, hv, ed, o) Hs k)) ∧ FR M1 M) ∨ (¬ (0 ≤ r9 ∧ r9 ≤ (mr : Int)) ∧ r = zI (-1) ∧ M1 = M)) := by
  refine s_any (by decide) (Nat.le_of_ble_eq_true rfl) ?_
  intro p e s m below meth c ls F hr hlocks w hl
  have F : CallFix p m c cX12_derive 2 s _ TB RX12 := F
  have hx := F.1
  have hb := F.2.1
  have hl : lv_has ls 2 [(0, .ref (B + 146)), (1, .int (zI r9))] := hl
  have hm8 := hS.1.1
  have hk12 := hS.2.2.2.2.1
  have hC : TW M q hv ed o := hS.T
  have hW : isR M 147 o.1 q hv ed o.2.1 o.2.2 := hC.1
  have hwf := hC.wf
  have hKL := hwf.2.2.2.2
  have hn12 := hwf.1
  have hq12 := hwf.2.1
  have hhv := hwf.2.2.1
  have hed := hwf.2.2.2.1
  refine lv_iload_n hx hb wdX12_derive_0 rfl (lv_at hl 1 rfl) ?_
  refine lv_iconst (v := zI 0) hx hb wdX12_derive_1 rfl ?_
  refine lv_aload_n hx hb wdX12_derive_2 rfl (lv_at hl 0 rfl) ?_
  refine f_12_5 F w (a := 146) rfl wtb_291 wdX12_derive_3 ?_
  refine r_val (v := (zI (mr : Int))) (hS.2.1) ?_
  refine k_Si F w (As := [.int (zI r9), .int (zI 0), .int (zI (mr : Int))]) (rest := []) (s_X12_in (v := r9) (a := 0) (b := (mr : Int)) (by omega) (by omega) (by omega)) wgs_X12_55 whs_X12_in ⟨(Nat.le_of_ble_eq_true rfl), (Nat.le_of_ble_eq_true rfl)⟩ hl.1 rfl (Nat.le_of_ble_eq_true rfl) ⟨Nat.zero_le _, Nat.zero_le _⟩ wdX12_derive_6 (fun r Ma2 H locs hp w => ?_)
  rcases hp with ⟨⟨hb1, rfl⟩ | ⟨hb1, rfl⟩, hMe⟩
  · rw [hMe] at w
    refine z_if_eq (tgt := 24) hx hb (by omega) wdX12_derive_9 (by decide) (fun c3 => False.elim (by omega)) (fun c3 => ?_)
    obtain ⟨nn, rfl⟩ : ∃ n9 : Nat, r9 = (n9 : Int) := ⟨Int.toNat r9, by omega⟩
    refine lv_aload_n hx hb wdX12_derive_12 rfl (lv_at hl 0 rfl) ?_
    refine lv_aload_n hx hb wdX12_derive_13 rfl (lv_at hl 0 rfl) ?_
    refine lv_iload_n hx hb wdX12_derive_14 rfl (lv_at hl 1 rfl) ?_
    refine k_Vi F w (As := [.int (zI (nn : Int))]) (rest := [.ref (B + 146)]) (a := 146) (kd_lt (a := 146) (show kd 146 = (12, 0, 0) from rfl) (by decide)) (sh_12 rfl _ _) rfl (s_X12_derives hC hS.1 (n9 := nn) (by omega)) wgv_X12_255 whv_X12_derives ⟨(Nat.le_of_ble_eq_true rfl), (Nat.le_of_ble_eq_true rfl)⟩ hl.1 rfl (Nat.le_of_ble_eq_true rfl) ⟨Nat.zero_le _, Nat.zero_le _⟩ wdX12_derive_15 (fun r Ma4 H locs hp w => ?_)
    rcases hp with ⟨oT, dT, eT, rfl, ⟨zT, hRT⟩, hFT, hdT⟩
    have hS3 := hS.fw hFT
    refine k_Vi F w (As := [.int (zI (dT : Int))]) (rest := []) (a := 146) (kd_lt (a := 146) (show kd 146 = (12, 0, 0) from rfl) (by decide)) (sh_12 rfl _ _) rfl (m_takes hS3 (cc := dT) hRT (by omega)) wgv_X12_252 whv_X12_takes ⟨(Nat.le_of_ble_eq_true rfl), (Nat.le_of_ble_eq_true rfl)⟩ hl.1 rfl (Nat.le_of_ble_eq_true rfl) ⟨Nat.zero_le _, Nat.zero_le _⟩ wdX12_derive_18 (fun r Ma5 H locs hp w => ?_)
    rcases hp with ⟨rfl, ⟨hd0, hS4, hA4⟩ | ⟨hd0, hMe⟩⟩
    · refine lv_goto (tgt := 25) hx hb wdX12_derive_21 (by decide) ?_
      exact e_i F w hr hlocks (Or.inl ⟨nn, oT, dT, rfl, by omega, eT, rfl, by omega, Or.inl ⟨hd0, hS4⟩, FR.tr (FR.q hFT) hA4⟩) wdX12_derive_25
    · rw [hMe] at w
      refine lv_goto (tgt := 25) hx hb wdX12_derive_21 (by decide) ?_
      exact e_i F w hr hlocks (Or.inl ⟨nn, oT, dT, rfl, by omega, eT, rfl, by omega, Or.inr ⟨hd0, hS3⟩, FR.q hFT⟩) wdX12_derive_25
  · rw [hMe] at w
    refine z_if_eq (tgt := 24) hx hb (by omega) wdX12_derive_9 (by decide) (fun c6 => ?_) (fun c6 => False.elim (by omega))
    refine lv_iconst (v := zI (-1)) hx hb wdX12_derive_24 rfl ?_
    exact e_i F w hr hlocks (Or.inr ⟨by omega, rfl, rfl⟩) wdX12_derive_25
theorem wdX12_undo_21 : decode cX12_undo 21 = .ok (.iload_n 1, 1) := dq0 kk_27 (by decide +kernel)
theorem wdX12_undo_22 : decode cX12_undo 22 = .ok (.bipush 28, 2) := dqS kk_16 (by decide +kernel)
theorem wdX12_undo_24 : decode cX12_undo 24 = .ok (.if_icmp .ge 29, 3) := dqT kk_162 (by decide +kernel)
theorem wdX12_undo_27 : decode cX12_undo 27 = .ok (.aload_n 0, 1) := dq0 kk_42 (by decide +kernel)
theorem wdX12_undo_28 : decode cX12_undo 28 = .ok (.getfield 13, 3) := dqV kk_180 (by decide +kernel)
theorem wdX12_undo_31 : decode cX12_undo 31 = .ok (.iload_n 1, 1) := dq0 kk_27 (by decide +kernel)
theorem wdX12_undo_32 : decode cX12_undo 32 = .ok (.aload_n 0, 1) := dq0 kk_42 (by decide +kernel)
theorem wdX12_undo_33 : decode cX12_undo 33 = .ok (.getfield 39, 3) := dqV kk_180 (by decide +kernel)
theorem wdX12_undo_36 : decode cX12_undo 36 = .ok (.bipush 28, 2) := dqS kk_16 (by decide +kernel)
theorem wdX12_undo_38 : decode cX12_undo 38 = .ok (.aload_n 0, 1) := dq0 kk_42 (by decide +kernel)
theorem wdX12_undo_39 : decode cX12_undo 39 = .ok (.getfield 201, 3) := dqV kk_180 (by decide +kernel)
theorem wdX12_undo_42 : decode cX12_undo 42 = .ok (.imul, 1) := dq0 kk_104 (by decide +kernel)
theorem wdX12_undo_43 : decode cX12_undo 43 = .ok (.iload_n 1, 1) := dq0 kk_27 (by decide +kernel)
theorem wdX12_undo_44 : decode cX12_undo 44 = .ok (.iadd, 1) := dq0 kk_96 (by decide +kernel)
theorem wdX12_undo_45 : decode cX12_undo 45 = .ok (.iaload, 1) := dq0 kk_46 (by decide +kernel)
theorem wdX12_undo_46 : decode cX12_undo 46 = .ok (.iastore, 1) := dq0 kk_79 (by decide +kernel)
theorem wdX12_undo_47 : decode cX12_undo 47 = .ok (.iinc 1 1, 3) := dqI kk_132 (by decide +kernel)
theorem wdX12_undo_50 : decode cX12_undo 50 = .ok (.goto (-29), 3) := dqT kk_167 (by decide +kernel)
set_option maxRecDepth 4000 in
theorem lp_X12_undo {p : Program} {l : Launch} {e : Env} {s : State} {m : MethodId} {args : Array Value} {below : List Frame} {meth : Method} {c : Code} {D : va_G} {B : Nat} {cy : Nat → ClassId} {H0 : Heap} {Q : State → Prop} {M : Mem} {R : Room} {N : Mem} {j : Nat} (F : CallFix p m c cX12_undo 2 s args TB RX12) (hR1 : 0 ≤ R.frames) (hR2 : 0 ≤ R.locals) (hj : j < 12) (hN : N.1 146 20 = zI (j : Int)) (kk : ∀ (i : Nat) (H : Heap) (locs : List Loc) (ls : Array Slot), (i = 28) → Wd D B cy s H0 (cpB N j i) H locs → lv_has ls 2 [(0, .ref (B + 146))] → W p l e R s m args below meth c H locs 0 0 Q (F0 m 53 ls [])) : ∀ (f : Nat) (i : Nat), (i ≤ 28) → (28 ≤ i + f) → ∀ (H : Heap) (locs : List Loc) (ls : Array Slot), Wd D B cy s H0 (cpB N j i) H locs → lv_has ls 2 [(1, .int (zI (i : Int))), (0, .ref (B + 146))] → W p l e R s m args below meth c H locs 0 0 Q (F0 m 21 ls []) := by
  have hx := F.1
  have hb := F.2.1
  intro f
  induction f with
  | zero =>
    intro i i0 hf H locs ls w hl
    refine lv_iload_n hx hb wdX12_undo_21 rfl (lv_at hl 0 rfl) ?_
    refine lv_bipush (v := zI 28) hx hb wdX12_undo_22 (by decide) ?_
    refine z_icmp_ge (tgt := 53) hx hb (by omega) (by omega) wdX12_undo_24 (by decide) (fun c1 => ?_) (fun c1 => False.elim (by omega))
    exact kk i _ _ ls (by omega) w (lv_sub hl [1] rfl)
  | succ f ih =>
    intro i i0 hf H locs ls w hl
    refine lv_iload_n hx hb wdX12_undo_21 rfl (lv_at hl 0 rfl) ?_
    refine lv_bipush (v := zI 28) hx hb wdX12_undo_22 (by decide) ?_
    refine z_icmp_ge (tgt := 53) hx hb (by omega) (by omega) wdX12_undo_24 (by decide) (fun c1 => ?_) (fun c1 => ?_)
    · exact kk i _ _ ls (by omega) w (lv_sub hl [1] rfl)
    · refine lv_aload_n hx hb wdX12_undo_27 rfl (lv_at hl 1 rfl) ?_
      refine f_12_1 F w (a := 146) rfl wtb_179 wdX12_undo_28 ?_
      refine lv_iload_n hx hb wdX12_undo_31 rfl (lv_at hl 0 rfl) ?_
      refine lv_aload_n hx hb wdX12_undo_32 rfl (lv_at hl 1 rfl) ?_
      refine f_12_19 F w (a := 146) rfl wtb_279 wdX12_undo_33 ?_
      refine lv_bipush (v := zI 28) hx hb wdX12_undo_36 (by decide) ?_
      refine lv_aload_n hx hb wdX12_undo_38 rfl (lv_at hl 1 rfl) ?_
      refine f_12_20 F w (a := 146) rfl wtb_280 wdX12_undo_39 ?_
      refine r_val (v := (zI (j : Int))) (((congrFun (cpB_o (by decide)) 20).trans hN)) ?_
      refine z_imul (z := (((28 * j) : Nat) : Int)) hx hb wdX12_undo_42 (by omega) ?_
      refine lv_iload_n hx hb wdX12_undo_43 rfl (lv_at hl 0 rfl) ?_
      refine z_iadd (z := ((((28 * j) + i) : Nat) : Int)) hx hb wdX12_undo_44 (by omega) ?_
      refine g_iald F w (a := 155) rfl (j := ((28 * j) + i)) (ix_n (by omega)) (by omega) wdX12_undo_45 ?_
      refine r_val (v := (N.1 155 ((28 * j) + i))) ((congrFun (cpB_o (by decide)) _)) ?_
      refine g_iast F w (a := 147) rfl (j := i) (ix_n (by omega)) (by omega) wdX12_undo_46 (fun H locs w => ?_)
      refine z_iinc (v := (((i + 1) : Nat) : Int)) (lv' := [(1, .int (zI (((i + 1) : Nat) : Int))), (0, .ref (B + 146))]) hx hb wdX12_undo_47 hl (k := 0) rfl (by omega) (by decide) rfl (fun ls hl => ?_)
      refine lv_goto (tgt := 21) hx hb wdX12_undo_50 (by decide) ?_
      rw [cpB_step] at w
      exact ih (i + 1) (by omega) (by omega) _ _ ls w (lv_sub hl [0, 1] rfl)
theorem wdX12_undo_0 : decode cX12_undo 0 = .ok (.aload_n 0, 1) := dq0 kk_42 (by decide +kernel)
theorem wdX12_undo_1 : decode cX12_undo 1 = .ok (.getfield 201, 3) := dqV kk_180 (by decide +kernel)
theorem wdX12_undo_4 : decode cX12_undo 4 = .ok (.ifCond .ne 5, 3) := dqT kk_154 (by decide +kernel)
theorem wdX12_undo_9 : decode cX12_undo 9 = .ok (.aload_n 0, 1) := dq0 kk_42 (by decide +kernel)
theorem wdX12_undo_10 : decode cX12_undo 10 = .ok (.dup, 1) := dq0 kk_89 (by decide +kernel)
theorem wdX12_undo_11 : decode cX12_undo 11 = .ok (.getfield 201, 3) := dqV kk_180 (by decide +kernel)
theorem wdX12_undo_14 : decode cX12_undo 14 = .ok (.iconst 1, 1) := dq0 kk_4 (by decide +kernel)
theorem wdX12_undo_15 : decode cX12_undo 15 = .ok (.isub, 1) := dq0 kk_100 (by decide +kernel)
theorem wdX12_undo_16 : decode cX12_undo 16 = .ok (.putfield 201, 3) := dqV kk_181 (by decide +kernel)
theorem wdX12_undo_19 : decode cX12_undo 19 = .ok (.iconst 0, 1) := dq0 kk_3 (by decide +kernel)
theorem wdX12_undo_20 : decode cX12_undo 20 = .ok (.istore_n 1, 1) := dq0 kk_60 (by decide +kernel)
theorem wdX12_undo_53 : decode cX12_undo 53 = .ok (.aload_n 0, 1) := dq0 kk_42 (by decide +kernel)
theorem wdX12_undo_54 : decode cX12_undo 54 = .ok (.getfield 201, 3) := dqV kk_180 (by decide +kernel)
theorem wdX12_undo_57 : decode cX12_undo 57 = .ok (.ireturn, 1) := dq0 kk_172 (by decide +kernel)
theorem wdX12_undo_7 : decode cX12_undo 7 = .ok (.iconst (-1), 1) := dq0 kk_2 (by decide +kernel)
theorem wdX12_undo_8 : decode cX12_undo 8 = .ok (.ireturn, 1) := dq0 kk_172 (by decide +kernel)
set_option maxRecDepth 4000 in
theorem m_undo {l : Launch} {D : va_G} {B : Nat} {cy : Nat → ClassId} {M : Mem} {Ps : Nat → Nat → Int} {mr k q hv ed : Nat} {o : Wo} {Hs : Nat → Fw} (hS : MS M Ps mr (q, hv, ed, o) Hs k) : Ci l D B cy yX12_undo cX12_undo 2 (some .int) 0 0 [.ref (B + 146)] M (fun r M1 => (1 ≤ k ∧ r = zI ((k - 1 : Nat) : Int) ∧ MS M1 Ps mr (Hs (k - 1)) Hs (k - 1) ∧ FR M1 M) ∨ (k = 0 ∧ r = zI (-1) ∧ M1 = M)) := by
  refine s_any (by decide) (Nat.le_of_ble_eq_true rfl) ?_
  intro p e s m below meth c ls F hr hlocks w hl
  have F : CallFix p m c cX12_undo 2 s _ TB RX12 := F
  have hx := F.1
  have hb := F.2.1
  have hl : lv_has ls 2 [(0, .ref (B + 146))] := hl
  have hm8 := hS.1.1
  have hk12 := hS.2.2.2.2.1
  have hC : TW M q hv ed o := hS.T
  have hW : isR M 147 o.1 q hv ed o.2.1 o.2.2 := hC.1
  have hwf := hC.wf
  have hKL := hwf.2.2.2.2
  have hn12 := hwf.1
  have hq12 := hwf.2.1
  have hhv := hwf.2.2.1
  have hed := hwf.2.2.2.1
  refine lv_aload_n hx hb wdX12_undo_0 rfl (lv_at hl 0 rfl) ?_
  refine f_12_20 F w (a := 146) rfl wtb_280 wdX12_undo_1 ?_
  refine r_val (v := (zI (k : Int))) (hS.2.2.2.1) ?_
  refine z_if_ne (tgt := 9) hx hb (by omega) wdX12_undo_4 (by decide) (fun c1 => ?_) (fun c1 => ?_)
  · refine lv_aload_n hx hb wdX12_undo_9 rfl (lv_at hl 0 rfl) ?_
    refine lv_dup hx hb wdX12_undo_10 rfl ?_
    refine f_12_20 F w (a := 146) rfl wtb_280 wdX12_undo_11 ?_
    refine r_val (v := (zI (k : Int))) (hS.2.2.2.1) ?_
    refine lv_iconst (v := zI 1) hx hb wdX12_undo_14 rfl ?_
    refine z_isub (z := ((k : Int) - 1)) hx hb wdX12_undo_15 (by omega) ?_
    refine r_val (v := zI ((k - 1 : Nat) : Int)) (congrArg zI (by omega)) ?_
    refine u_12_20 F w (a := 146) rfl wtb_280 wdX12_undo_16 (fun H locs w => ?_)
    refine lv_iconst (v := zI 0) hx hb wdX12_undo_19 rfl ?_
    refine lv_istore_n (lv' := [(1, .int (zI 0)), (0, .ref (B + 146))]) hx hb wdX12_undo_20 rfl hl (by decide) rfl (fun ls hl => ?_)
    rw [← cpB_0 (st M 146 20 (zI ((k - 1 : Nat) : Int))) (k - 1)] at w
    refine lp_X12_undo (M := M) (N := (st M 146 20 (zI ((k - 1 : Nat) : Int)))) (j := k - 1)  F (Nat.le_of_ble_eq_true rfl) (Nat.le_of_ble_eq_true rfl) (by omega) st_at (fun i H locs ls x0 w hl => ?_) 28 0 (by omega) (by omega) _ _ ls w (lv_sub hl [0, 1] rfl)
    subst x0
    refine lv_aload_n hx hb wdX12_undo_53 rfl (lv_at hl 0 rfl) ?_
    refine f_12_20 F w (a := 146) rfl wtb_280 wdX12_undo_54 ?_
    refine r_val (v := (zI (((k - 1) : Nat) : Int))) (((congrFun (cpB_o (by decide)) 20).trans st_at)) ?_
    exact e_i F w hr hlocks (Or.inl ⟨by omega, rfl, hS.undo (by omega), FR.un⟩) wdX12_undo_57
  · refine lv_iconst (v := zI (-1)) hx hb wdX12_undo_7 rfl ?_
    exact e_i F w hr hlocks (Or.inr ⟨by omega, rfl, rfl⟩) wdX12_undo_8
