theorem rdX0_hasRule_0 : decode cX0_hasRule 0 = .ok (.iload_n 1, 1) := dq0 kk_27 (by decide +kernel)
theorem rdX0_hasRule_1 : decode cX0_hasRule 1 = .ok (.ifCond .lt 21, 3) := dqT kk_155 (by decide +kernel)
theorem rdX0_hasRule_22 : decode cX0_hasRule 22 = .ok (.iconst 0, 1) := dq0 kk_3 (by decide +kernel)
theorem rdX0_hasRule_23 : decode cX0_hasRule 23 = .ok (.ireturn, 1) := dq0 kk_172 (by decide +kernel)
theorem rdX0_hasRule_4 : decode cX0_hasRule 4 = .ok (.iload_n 1, 1) := dq0 kk_27 (by decide +kernel)
theorem rdX0_hasRule_5 : decode cX0_hasRule 5 = .ok (.aload_n 0, 1) := dq0 kk_42 (by decide +kernel)
theorem rdX0_hasRule_6 : decode cX0_hasRule 6 = .ok (.getfield 24, 3) := dqV kk_180 (by decide +kernel)
theorem rdX0_hasRule_9 : decode cX0_hasRule 9 = .ok (.if_icmp .ge 13, 3) := dqT kk_162 (by decide +kernel)
theorem rdX0_hasRule_12 : decode cX0_hasRule 12 = .ok (.iload_n 1, 1) := dq0 kk_27 (by decide +kernel)
theorem rdX0_hasRule_13 : decode cX0_hasRule 13 = .ok (.bipush 8, 2) := dqS kk_16 (by decide +kernel)
theorem rdX0_hasRule_15 : decode cX0_hasRule 15 = .ok (.if_icmp .ge 7, 3) := dqT kk_162 (by decide +kernel)
theorem rdX0_hasRule_18 : decode cX0_hasRule 18 = .ok (.iconst 1, 1) := dq0 kk_4 (by decide +kernel)
theorem rdX0_hasRule_19 : decode cX0_hasRule 19 = .ok (.goto 4, 3) := dqT kk_167 (by decide +kernel)
set_option maxRecDepth 4000 in
theorem s_X0_hasRule {l : Launch} {D : va_G} {B : Nat} {cy : Nat → ClassId} {M : Mem} {m9 : Nat} {Ps : Nat → Nat → Int} (hm9 : m9 ≤ 8) (hPs : ∀ j, j < m9 → okX (Ps j)) (hK : isK M Ps m9) {r9 : Int} (hr9 : rg r9) : Ci l D B cy yX0_hasRule cX0_hasRule 2 (some .boolean) 0 0 [.ref (B + 22), .int (zI r9)] M (fun r M1 => ((0 ≤ r9 ∧ r9 < (m9 : Int)) ∧ r = zI 1 ∨ ¬ (0 ≤ r9 ∧ r9 < (m9 : Int)) ∧ r = zI 0) ∧ M1 = M) := by
  refine s_any (by decide) (Nat.le_of_ble_eq_true rfl) ?_
  intro p e s m below meth c ls F hr hlocks w hl
  have F : CallFix p m c cX0_hasRule 2 s _ TB RX0 := F
  have hx := F.1
  have hb := F.2.1
  have hl : lv_has ls 2 [(0, .ref (B + 22)), (1, .int (zI r9))] := hl
  refine lv_iload_n hx hb rdX0_hasRule_0 rfl (lv_at hl 1 rfl) ?_
  refine z_if_lt (tgt := 22) hx hb (by omega) rdX0_hasRule_1 (by decide) (fun c1 => ?_) (fun c1 => ?_)
  · refine lv_iconst (v := zI 0) hx hb rdX0_hasRule_22 rfl ?_
    exact e_z F w hr hlocks (nar_z (by omega)) ⟨Or.inr ⟨by omega, rfl⟩, rfl⟩ rdX0_hasRule_23
  · refine lv_iload_n hx hb rdX0_hasRule_4 rfl (lv_at hl 1 rfl) ?_
    refine lv_aload_n hx hb rdX0_hasRule_5 rfl (lv_at hl 0 rfl) ?_
    refine f_0_2 F w (a := 22) rfl rtb_86 rdX0_hasRule_6 ?_
    refine r_val (v := (zI (m9 : Int))) (hK.1) ?_
    refine z_icmp_ge (tgt := 22) hx hb (by omega) (by omega) rdX0_hasRule_9 (by decide) (fun c2 => ?_) (fun c2 => ?_)
    · refine lv_iconst (v := zI 0) hx hb rdX0_hasRule_22 rfl ?_
      exact e_z F w hr hlocks (nar_z (by omega)) ⟨Or.inr ⟨by omega, rfl⟩, rfl⟩ rdX0_hasRule_23
    · refine lv_iload_n hx hb rdX0_hasRule_12 rfl (lv_at hl 1 rfl) ?_
      refine lv_bipush (v := zI 8) hx hb rdX0_hasRule_13 (by decide) ?_
      refine z_icmp_ge (tgt := 22) hx hb (by omega) (by omega) rdX0_hasRule_15 (by decide) (fun c3 => ?_) (fun c3 => ?_)
      · refine lv_iconst (v := zI 0) hx hb rdX0_hasRule_22 rfl ?_
        exact e_z F w hr hlocks (nar_z (by omega)) ⟨Or.inr ⟨by omega, rfl⟩, rfl⟩ rdX0_hasRule_23
      · refine lv_iconst (v := zI 1) hx hb rdX0_hasRule_18 rfl ?_
        refine lv_goto (tgt := 23) hx hb rdX0_hasRule_19 (by decide) ?_
        exact e_z F w hr hlocks (nar_z (by omega)) ⟨Or.inl ⟨by omega, rfl⟩, rfl⟩ rdX0_hasRule_23
theorem rdX11_rule_0 : decode cX11_rule 0 = .ok (.aload_n 0, 1) := dq0 kk_42 (by decide +kernel)
theorem rdX11_rule_1 : decode cX11_rule 1 = .ok (.getfield 35, 3) := dqV kk_180 (by decide +kernel)
theorem rdX11_rule_4 : decode cX11_rule 4 = .ok (.iload_n 1, 1) := dq0 kk_27 (by decide +kernel)
theorem rdX11_rule_5 : decode cX11_rule 5 = .ok (.invokevirtual 173, 3) := dqV kk_182 (by decide +kernel)
theorem rtk_X0_hasRule : Cond.code yX0_hasRule cX0_hasRule 2 (some .boolean) ∈ TB := tbm (tc3 (List.mem_of_getElem? (i := 211) rfl)) rfl
theorem rgc_X0_hasRule : GoodIn TB (cw yX0_hasRule cX0_hasRule 2 (some .boolean)) := goodIn_c2 rtk_X0_hasRule
theorem rtb_169 : Cond.methodLink "ToneLines" 173 yX0_hasRule ∈ TB := tbm (tc3 (List.mem_of_getElem? (i := 208) rfl)) rfl
theorem rtb_170 : Cond.instanceMethod yX0_hasRule ∈ TB := tbm (tc3 (List.mem_of_getElem? (i := 209) rfl)) rfl
theorem rtb_171 : Cond.selects "ToneLines$Derivation" yX0_hasRule yX0_hasRule ∈ TB := tbm (tc3 (List.mem_of_getElem? (i := 210) rfl)) rfl
theorem rgv_X11_173 : GoodIn TB (wsV RX11 173 RX0 yX0_hasRule (cw yX0_hasRule cX0_hasRule 2 (some .boolean))) := goodIn_4 rtb_169 rtb_170 rtb_171 rtb_112 rgc_X0_hasRule
theorem rhv_X0_hasRule : yX0_hasRule.cls = RX0 ∧ yX0_hasRule.cls ≠ "java/lang/invoke/MethodHandle" ∧ yX0_hasRule.cls ≠ "java/lang/invoke/VarHandle" ∧ (parseMethodDescriptor yX0_hasRule.desc).map (fun d => d.parameters.length) = some 1 := by decide +kernel
theorem rdX11_rule_8 : decode cX11_rule 8 = .ok (.ifCond .eq 13, 3) := dqT kk_153 (by decide +kernel)
theorem rdX11_rule_11 : decode cX11_rule 11 = .ok (.iload_n 2, 1) := dq0 kk_28 (by decide +kernel)
theorem rdX11_rule_12 : decode cX11_rule 12 = .ok (.ifCond .lt 9, 3) := dqT kk_155 (by decide +kernel)
theorem rdX11_rule_21 : decode cX11_rule 21 = .ok (.iconst (-1), 1) := dq0 kk_2 (by decide +kernel)
theorem rdX11_rule_22 : decode cX11_rule 22 = .ok (.ireturn, 1) := dq0 kk_172 (by decide +kernel)
theorem rdX11_rule_15 : decode cX11_rule 15 = .ok (.iload_n 2, 1) := dq0 kk_28 (by decide +kernel)
theorem rdX11_rule_16 : decode cX11_rule 16 = .ok (.bipush 8, 2) := dqS kk_16 (by decide +kernel)
theorem rdX11_rule_18 : decode cX11_rule 18 = .ok (.if_icmp .lt 5, 3) := dqT kk_161 (by decide +kernel)
theorem rdX11_rule_23 : decode cX11_rule 23 = .ok (.aload_n 0, 1) := dq0 kk_42 (by decide +kernel)
theorem rdX11_rule_24 : decode cX11_rule 24 = .ok (.getfield 35, 3) := dqV kk_180 (by decide +kernel)
theorem rdX11_rule_27 : decode cX11_rule 27 = .ok (.getfield 180, 3) := dqV kk_180 (by decide +kernel)
theorem rtb_172 : Cond.fieldLink "ToneLines" 180 "ToneLines$Derivation" "list" "[LToneLines$Rule;" ∈ TB := tbm (tc1 (List.mem_of_getElem? (i := 169) rfl)) rfl
theorem rdX11_rule_30 : decode cX11_rule 30 = .ok (.iload_n 1, 1) := dq0 kk_27 (by decide +kernel)
theorem rdX11_rule_31 : decode cX11_rule 31 = .ok (.aaload, 1) := dq0 kk_50 (by decide +kernel)
theorem rdX11_rule_32 : decode cX11_rule 32 = .ok (.getfield 253, 3) := dqV kk_180 (by decide +kernel)
theorem rtb_173 : Cond.fieldLink "ToneLines" 253 "ToneLines$Rule" "parts" "[I" ∈ TB := tbm (tc1 (List.mem_of_getElem? (i := 77) rfl)) rfl
theorem rdX11_rule_35 : decode cX11_rule 35 = .ok (.iload_n 2, 1) := dq0 kk_28 (by decide +kernel)
theorem rdX11_rule_36 : decode cX11_rule 36 = .ok (.iaload, 1) := dq0 kk_46 (by decide +kernel)
theorem rdX11_rule_37 : decode cX11_rule 37 = .ok (.ireturn, 1) := dq0 kk_172 (by decide +kernel)
set_option maxRecDepth 4000 in
theorem s_X11_rule {l : Launch} {D : va_G} {B : Nat} {cy : Nat → ClassId} {M : Mem} {m9 : Nat} {Ps : Nat → Nat → Int} (hm9 : m9 ≤ 8) (hPs : ∀ j, j < m9 → okX (Ps j)) (hK : isK M Ps m9) {r9 q9 : Int} (hr9 : rg r9) (hq9 : rg q9) : Ci l D B cy yX11_rule cX11_rule 3 (some .int) 1 21 [.ref (B + 0), .int (zI r9), .int (zI q9)] M (fun r M1 => (((0 ≤ r9 ∧ r9 < (m9 : Int)) ∧ (0 ≤ q9 ∧ q9 < 8) ∧ r = zI (Ps (Int.toNat r9) (Int.toNat q9))) ∨ (¬ ((0 ≤ r9 ∧ r9 < (m9 : Int)) ∧ (0 ≤ q9 ∧ q9 < 8)) ∧ r = zI (-1))) ∧ M1 = M) := by
  refine s_any (by decide) (Nat.le_of_ble_eq_true rfl) ?_
  intro p e s m below meth c ls F hr hlocks w hl
  have F : CallFix p m c cX11_rule 3 s _ TB RX11 := F
  have hx := F.1
  have hb := F.2.1
  have hl : lv_has ls 3 [(0, .ref (B + 0)), (1, .int (zI r9)), (2, .int (zI q9))] := hl
  refine lv_aload_n hx hb rdX11_rule_0 rfl (lv_at hl 0 rfl) ?_
  refine f_11_3 F w (a := 0) rfl rtb_95 rdX11_rule_1 ?_
  refine lv_iload_n hx hb rdX11_rule_4 rfl (lv_at hl 1 rfl) ?_
  refine k_Vi F w (As := [.int (zI r9)]) (rest := []) (a := 22) (kd_lt (a := 22) (show kd 22 = (0, 0, 0) from rfl) (by decide)) (sh_0 rfl _ _) rfl (s_X0_hasRule hm9 hPs hK (r9 := r9) (by omega)) rgv_X11_173 rhv_X0_hasRule ⟨(Nat.le_of_ble_eq_true rfl), (Nat.le_of_ble_eq_true rfl)⟩ hl.1 rfl (Nat.le_of_ble_eq_true rfl) ⟨Nat.zero_le _, Nat.zero_le _⟩ rdX11_rule_5 (fun r Ma2 H locs hp w => ?_)
  rcases hp with ⟨⟨hb1, rfl⟩ | ⟨hb1, rfl⟩, hMe⟩
  · rw [hMe] at w
    refine z_if_eq (tgt := 21) hx hb (by omega) rdX11_rule_8 (by decide) (fun c3 => False.elim (by omega)) (fun c3 => ?_)
    refine lv_iload_n hx hb rdX11_rule_11 rfl (lv_at hl 2 rfl) ?_
    refine z_if_lt (tgt := 21) hx hb (by omega) rdX11_rule_12 (by decide) (fun c4 => ?_) (fun c4 => ?_)
    · refine lv_iconst (v := zI (-1)) hx hb rdX11_rule_21 rfl ?_
      exact e_i F w hr hlocks ⟨Or.inr ⟨by omega, rfl⟩, rfl⟩ rdX11_rule_22
    · refine lv_iload_n hx hb rdX11_rule_15 rfl (lv_at hl 2 rfl) ?_
      refine lv_bipush (v := zI 8) hx hb rdX11_rule_16 (by decide) ?_
      refine z_icmp_lt (tgt := 23) hx hb (by omega) (by omega) rdX11_rule_18 (by decide) (fun c5 => ?_) (fun c5 => ?_)
      · refine lv_aload_n hx hb rdX11_rule_23 rfl (lv_at hl 0 rfl) ?_
        refine f_11_3 F w (a := 0) rfl rtb_95 rdX11_rule_24 ?_
        refine f_0_1 F w (a := 22) rfl rtb_172 rdX11_rule_27 ?_
        refine lv_iload_n hx hb rdX11_rule_30 rfl (lv_at hl 1 rfl) ?_
        refine g_aldR F w (a := 24) rfl (j := (Int.toNat r9)) (o := (28 + 2 * (Int.toNat r9))) rfl (ix_z (by omega) (by omega)) (by omega) rdX11_rule_31 ?_
        refine f_4_0 F w (a := (28 + 2 * (Int.toNat r9))) (kd_lst (by omega)) rtb_173 rdX11_rule_32 ?_
        refine lv_iload_n hx hb rdX11_rule_35 rfl (lv_at hl 2 rfl) ?_
        refine g_iald F w (a := ((28 + 2 * (Int.toNat r9)) + 1)) (kd_r1 (kd_lst (by omega))) (j := (Int.toNat q9)) (ix_z (by omega) (by omega)) (by omega) rdX11_rule_36 ?_
        have hpp := hPs (Int.toNat r9) (by omega) (Int.toNat q9) (by omega)
        refine r_val (v := (zI (Ps (Int.toNat r9) (Int.toNat q9)))) (hK.2 (Int.toNat r9) (by omega) (Int.toNat q9) (by omega)) ?_
        exact e_i F w hr hlocks ⟨Or.inl ⟨by omega, by omega, rfl⟩, rfl⟩ rdX11_rule_37
      · refine lv_iconst (v := zI (-1)) hx hb rdX11_rule_21 rfl ?_
        exact e_i F w hr hlocks ⟨Or.inr ⟨by omega, rfl⟩, rfl⟩ rdX11_rule_22
  · rw [hMe] at w
    refine z_if_eq (tgt := 21) hx hb (by omega) rdX11_rule_8 (by decide) (fun c6 => ?_) (fun c6 => False.elim (by omega))
    refine lv_iconst (v := zI (-1)) hx hb rdX11_rule_21 rfl ?_
    exact e_i F w hr hlocks ⟨Or.inr ⟨by omega, rfl⟩, rfl⟩ rdX11_rule_22
theorem rdX12_isRule_0 : decode cX12_isRule 0 = .ok (.iload_n 1, 1) := dq0 kk_27 (by decide +kernel)
theorem rdX12_isRule_1 : decode cX12_isRule 1 = .ok (.iconst 0, 1) := dq0 kk_3 (by decide +kernel)
theorem rdX12_isRule_2 : decode cX12_isRule 2 = .ok (.aload_n 0, 1) := dq0 kk_42 (by decide +kernel)
theorem rdX12_isRule_3 : decode cX12_isRule 3 = .ok (.getfield 239, 3) := dqV kk_180 (by decide +kernel)
theorem rdX12_isRule_6 : decode cX12_isRule 6 = .ok (.iconst 1, 1) := dq0 kk_4 (by decide +kernel)
theorem rdX12_isRule_7 : decode cX12_isRule 7 = .ok (.isub, 1) := dq0 kk_100 (by decide +kernel)
theorem rdX12_isRule_8 : decode cX12_isRule 8 = .ok (.invokestatic 55, 3) := dqV kk_184 (by decide +kernel)
theorem rdX12_isRule_11 : decode cX12_isRule 11 = .ok (.ireturn, 1) := dq0 kk_172 (by decide +kernel)
set_option maxRecDepth 4000 in
theorem t_isRule {l : Launch} {D : va_G} {B : Nat} {cy : Nat → ClassId} {M : Mem} {m9 : Nat} {Ps : Nat → Nat → Int} (hm9 : m9 ≤ 8) (hPs : ∀ j, j < m9 → okX (Ps j)) (hK : isKr M Ps m9) {r9 : Int} (hr9 : rg r9) : Ci l D B cy yX12_isRule cX12_isRule 2 (some .boolean) 1 22 [.ref (B + 146), .int (zI r9)] M (fun r M1 => ((0 ≤ r9 ∧ r9 < (m9 : Int)) ∧ r = zI 1 ∨ ¬ (0 ≤ r9 ∧ r9 < (m9 : Int)) ∧ r = zI 0) ∧ M1 = M) := by
  refine s_any (by decide) (Nat.le_of_ble_eq_true rfl) ?_
  intro p e s m below meth c ls F hr hlocks w hl
  have F : CallFix p m c cX12_isRule 2 s _ TB RX12 := F
  have hx := F.1
  have hb := F.2.1
  have hl : lv_has ls 2 [(0, .ref (B + 146)), (1, .int (zI r9))] := hl
  refine lv_iload_n hx hb rdX12_isRule_0 rfl (lv_at hl 1 rfl) ?_
  refine lv_iconst (v := zI 0) hx hb rdX12_isRule_1 rfl ?_
  refine lv_aload_n hx hb rdX12_isRule_2 rfl (lv_at hl 0 rfl) ?_
  refine f_12_5 F w (a := 146) rfl rtb_165 rdX12_isRule_3 ?_
  refine r_val (v := (zI (m9 : Int))) (hK.1) ?_
  refine lv_iconst (v := zI 1) hx hb rdX12_isRule_6 rfl ?_
  refine z_isub (z := ((m9 : Int) - 1)) hx hb rdX12_isRule_7 (by omega) ?_
  refine k_Si F w (As := [.int (zI r9), .int (zI 0), .int (zI ((m9 : Int) - 1))]) (rest := []) (t_in (v := r9) (a := 0) (b := ((m9 : Int) - 1)) (by omega) (by omega) (by omega)) rgs_X12_55 rhs_X12_in ⟨(Nat.le_of_ble_eq_true rfl), (Nat.le_of_ble_eq_true rfl)⟩ hl.1 rfl (Nat.le_of_ble_eq_true rfl) ⟨Nat.zero_le _, Nat.zero_le _⟩ rdX12_isRule_8 (fun r Ma2 H locs hp w => ?_)
  rcases hp with ⟨⟨hb1, rfl⟩ | ⟨hb1, rfl⟩, hMe⟩
  · rw [hMe] at w
    exact e_z F w hr hlocks (nar_z (by omega)) ⟨Or.inl ⟨by omega, rfl⟩, rfl⟩ rdX12_isRule_11
  · rw [hMe] at w
    exact e_z F w hr hlocks (nar_z (by omega)) ⟨Or.inr ⟨by omega, rfl⟩, rfl⟩ rdX12_isRule_11
theorem rdX12_rule_0 : decode cX12_rule 0 = .ok (.aload_n 0, 1) := dq0 kk_42 (by decide +kernel)
theorem rdX12_rule_1 : decode cX12_rule 1 = .ok (.iload_n 1, 1) := dq0 kk_27 (by decide +kernel)
theorem rdX12_rule_2 : decode cX12_rule 2 = .ok (.invokevirtual 249, 3) := dqV kk_182 (by decide +kernel)
theorem rtk_X12_isRule : Cond.code yX12_isRule cX12_isRule 2 (some .boolean) ∈ TB := tbm (tc6 (List.mem_of_getElem? (i := 52) rfl)) rfl
theorem rgc_X12_isRule : GoodIn TB (cw yX12_isRule cX12_isRule 2 (some .boolean)) := goodIn_c2 rtk_X12_isRule
theorem rtb_174 : Cond.methodLink "ToneLinesModel" 249 yX12_isRule ∈ TB := tbm (tc6 (List.mem_of_getElem? (i := 49) rfl)) rfl
theorem rtb_175 : Cond.instanceMethod yX12_isRule ∈ TB := tbm (tc6 (List.mem_of_getElem? (i := 51) rfl)) rfl
theorem rtb_176 : Cond.selects "ToneLinesModel" yX12_isRule yX12_isRule ∈ TB := tbp (List.mem_of_getElem? (i := 52) rfl) rfl
theorem rgv_X12_249 : GoodIn TB (wsV RX12 249 RX12 yX12_isRule (cw yX12_isRule cX12_isRule 2 (some .boolean))) := goodIn_4 rtb_174 rtb_175 rtb_176 rtb_119 rgc_X12_isRule
theorem rhv_X12_isRule : yX12_isRule.cls = RX12 ∧ yX12_isRule.cls ≠ "java/lang/invoke/MethodHandle" ∧ yX12_isRule.cls ≠ "java/lang/invoke/VarHandle" ∧ (parseMethodDescriptor yX12_isRule.desc).map (fun d => d.parameters.length) = some 1 := by decide +kernel
theorem rdX12_rule_5 : decode cX12_rule 5 = .ok (.ifCond .eq 27, 3) := dqT kk_153 (by decide +kernel)
theorem rdX12_rule_8 : decode cX12_rule 8 = .ok (.iload_n 2, 1) := dq0 kk_28 (by decide +kernel)
theorem rdX12_rule_9 : decode cX12_rule 9 = .ok (.iconst 0, 1) := dq0 kk_3 (by decide +kernel)
theorem rdX12_rule_10 : decode cX12_rule 10 = .ok (.bipush 7, 2) := dqS kk_16 (by decide +kernel)
theorem rdX12_rule_12 : decode cX12_rule 12 = .ok (.invokestatic 55, 3) := dqV kk_184 (by decide +kernel)
theorem rdX12_rule_15 : decode cX12_rule 15 = .ok (.ifCond .eq 17, 3) := dqT kk_153 (by decide +kernel)
theorem rdX12_rule_18 : decode cX12_rule 18 = .ok (.aload_n 0, 1) := dq0 kk_42 (by decide +kernel)
theorem rdX12_rule_19 : decode cX12_rule 19 = .ok (.getfield 20, 3) := dqV kk_180 (by decide +kernel)
theorem rdX12_rule_22 : decode cX12_rule 22 = .ok (.bipush 8, 2) := dqS kk_16 (by decide +kernel)
theorem rdX12_rule_24 : decode cX12_rule 24 = .ok (.iload_n 1, 1) := dq0 kk_27 (by decide +kernel)
theorem rdX12_rule_25 : decode cX12_rule 25 = .ok (.imul, 1) := dq0 kk_104 (by decide +kernel)
theorem rdX12_rule_26 : decode cX12_rule 26 = .ok (.iload_n 2, 1) := dq0 kk_28 (by decide +kernel)
theorem rdX12_rule_27 : decode cX12_rule 27 = .ok (.iadd, 1) := dq0 kk_96 (by decide +kernel)
theorem rdX12_rule_28 : decode cX12_rule 28 = .ok (.iaload, 1) := dq0 kk_46 (by decide +kernel)
theorem rdX12_rule_29 : decode cX12_rule 29 = .ok (.goto 4, 3) := dqT kk_167 (by decide +kernel)
theorem rdX12_rule_33 : decode cX12_rule 33 = .ok (.ireturn, 1) := dq0 kk_172 (by decide +kernel)
theorem rdX12_rule_32 : decode cX12_rule 32 = .ok (.iconst (-1), 1) := dq0 kk_2 (by decide +kernel)
set_option maxRecDepth 4000 in
theorem t_rule {l : Launch} {D : va_G} {B : Nat} {cy : Nat → ClassId} {M : Mem} {m9 : Nat} {Ps : Nat → Nat → Int} (hm9 : m9 ≤ 8) (hPs : ∀ j, j < m9 → okX (Ps j)) (hK : isKr M Ps m9) {r9 q9 : Int} (hr9 : rg r9) (hq9 : rg q9) : Ci l D B cy yX12_rule cX12_rule 3 (some .int) 2 43 [.ref (B + 146), .int (zI r9), .int (zI q9)] M (fun r M1 => (((0 ≤ r9 ∧ r9 < (m9 : Int)) ∧ (0 ≤ q9 ∧ q9 < 8) ∧ r = zI (Ps (Int.toNat r9) (Int.toNat q9))) ∨ (¬ ((0 ≤ r9 ∧ r9 < (m9 : Int)) ∧ (0 ≤ q9 ∧ q9 < 8)) ∧ r = zI (-1))) ∧ M1 = M) := by
  refine s_any (by decide) (Nat.le_of_ble_eq_true rfl) ?_
  intro p e s m below meth c ls F hr hlocks w hl
  have F : CallFix p m c cX12_rule 3 s _ TB RX12 := F
  have hx := F.1
  have hb := F.2.1
  have hl : lv_has ls 3 [(0, .ref (B + 146)), (1, .int (zI r9)), (2, .int (zI q9))] := hl
  refine lv_aload_n hx hb rdX12_rule_0 rfl (lv_at hl 0 rfl) ?_
  refine lv_iload_n hx hb rdX12_rule_1 rfl (lv_at hl 1 rfl) ?_
  refine k_Vi F w (As := [.int (zI r9)]) (rest := []) (a := 146) (kd_lt (a := 146) (show kd 146 = (12, 0, 0) from rfl) (by decide)) (sh_12 rfl _ _) rfl (t_isRule hm9 hPs hK (r9 := r9) (by omega)) rgv_X12_249 rhv_X12_isRule ⟨(Nat.le_of_ble_eq_true rfl), (Nat.le_of_ble_eq_true rfl)⟩ hl.1 rfl (Nat.le_of_ble_eq_true rfl) ⟨Nat.zero_le _, Nat.zero_le _⟩ rdX12_rule_2 (fun r Ma2 H locs hp w => ?_)
  rcases hp with ⟨⟨hb1, rfl⟩ | ⟨hb1, rfl⟩, hMe⟩
  · rw [hMe] at w
    refine z_if_eq (tgt := 32) hx hb (by omega) rdX12_rule_5 (by decide) (fun c3 => False.elim (by omega)) (fun c3 => ?_)
    refine lv_iload_n hx hb rdX12_rule_8 rfl (lv_at hl 2 rfl) ?_
    refine lv_iconst (v := zI 0) hx hb rdX12_rule_9 rfl ?_
    refine lv_bipush (v := zI 7) hx hb rdX12_rule_10 (by decide) ?_
    refine k_Si F w (As := [.int (zI q9), .int (zI 0), .int (zI 7)]) (rest := []) (t_in (v := q9) (a := 0) (b := 7) (by omega) (by omega) (by omega)) rgs_X12_55 rhs_X12_in ⟨(Nat.le_of_ble_eq_true rfl), (Nat.le_of_ble_eq_true rfl)⟩ hl.1 rfl (Nat.le_of_ble_eq_true rfl) ⟨Nat.zero_le _, Nat.zero_le _⟩ rdX12_rule_12 (fun r Ma5 H locs hp w => ?_)
    rcases hp with ⟨⟨hb4, rfl⟩ | ⟨hb4, rfl⟩, hMe⟩
    · rw [hMe] at w
      refine z_if_eq (tgt := 32) hx hb (by omega) rdX12_rule_15 (by decide) (fun c6 => False.elim (by omega)) (fun c6 => ?_)
      refine lv_aload_n hx hb rdX12_rule_18 rfl (lv_at hl 0 rfl) ?_
      refine f_12_4 F w (a := 146) rfl rtb_164 rdX12_rule_19 ?_
      refine lv_bipush (v := zI 8) hx hb rdX12_rule_22 (by decide) ?_
      refine lv_iload_n hx hb rdX12_rule_24 rfl (lv_at hl 1 rfl) ?_
      refine z_imul (z := (8 * r9)) hx hb rdX12_rule_25 (by omega) ?_
      refine lv_iload_n hx hb rdX12_rule_26 rfl (lv_at hl 2 rfl) ?_
      refine z_iadd (z := ((8 * r9) + q9)) hx hb rdX12_rule_27 (by omega) ?_
      refine g_iald F w (a := 149) rfl (j := (Int.toNat ((8 * r9) + q9))) (ix_z (by omega) (by omega)) (by omega) rdX12_rule_28 ?_
      have hpp := hPs (Int.toNat r9) (by omega) (Int.toNat q9) (by omega)
      have e8 : Int.toNat (8 * r9 + q9) = 8 * Int.toNat r9 + Int.toNat q9 := by omega
      refine r_val (v := (zI (Ps (Int.toNat r9) (Int.toNat q9)))) ((by rw [e8]; exact hK.2 (Int.toNat r9) (by omega) (Int.toNat q9) (by omega))) ?_
      refine lv_goto (tgt := 33) hx hb rdX12_rule_29 (by decide) ?_
      exact e_i F w hr hlocks ⟨Or.inl ⟨by omega, by omega, rfl⟩, rfl⟩ rdX12_rule_33
    · rw [hMe] at w
      refine z_if_eq (tgt := 32) hx hb (by omega) rdX12_rule_15 (by decide) (fun c7 => ?_) (fun c7 => False.elim (by omega))
      refine lv_iconst (v := zI (-1)) hx hb rdX12_rule_32 rfl ?_
      exact e_i F w hr hlocks ⟨Or.inr ⟨by omega, rfl⟩, rfl⟩ rdX12_rule_33
  · rw [hMe] at w
    refine z_if_eq (tgt := 32) hx hb (by omega) rdX12_rule_5 (by decide) (fun c8 => ?_) (fun c8 => False.elim (by omega))
    refine lv_iconst (v := zI (-1)) hx hb rdX12_rule_32 rfl ?_
    exact e_i F w hr hlocks ⟨Or.inr ⟨by omega, rfl⟩, rfl⟩ rdX12_rule_33
