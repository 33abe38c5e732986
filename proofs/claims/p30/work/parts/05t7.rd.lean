theorem rdX12_in_0 : decode cX12_in 0 = .ok (.iload_n 0, 1) := dq0 kk_26 (by decide +kernel)
theorem rdX12_in_1 : decode cX12_in 1 = .ok (.iload_n 1, 1) := dq0 kk_27 (by decide +kernel)
theorem rdX12_in_2 : decode cX12_in 2 = .ok (.if_icmp .lt 12, 3) := dqT kk_161 (by decide +kernel)
theorem rdX12_in_14 : decode cX12_in 14 = .ok (.iconst 0, 1) := dq0 kk_3 (by decide +kernel)
theorem rdX12_in_15 : decode cX12_in 15 = .ok (.ireturn, 1) := dq0 kk_172 (by decide +kernel)
theorem rdX12_in_5 : decode cX12_in 5 = .ok (.iload_n 0, 1) := dq0 kk_26 (by decide +kernel)
theorem rdX12_in_6 : decode cX12_in 6 = .ok (.iload_n 2, 1) := dq0 kk_28 (by decide +kernel)
theorem rdX12_in_7 : decode cX12_in 7 = .ok (.if_icmp .gt 7, 3) := dqT kk_163 (by decide +kernel)
theorem rdX12_in_10 : decode cX12_in 10 = .ok (.iconst 1, 1) := dq0 kk_4 (by decide +kernel)
theorem rdX12_in_11 : decode cX12_in 11 = .ok (.goto 4, 3) := dqT kk_167 (by decide +kernel)
set_option maxRecDepth 4000 in
theorem t_in {l : Launch} {D : va_G} {B : Nat} {cy : Nat → ClassId} {M : Mem} {v a b : Int} (hv : rg v) (ha : rg a) (hb1 : rg b) : Ci l D B cy yX12_in cX12_in 3 (some .boolean) 0 0 [.int (zI v), .int (zI a), .int (zI b)] M (fun r M1 => ((a ≤ v ∧ v ≤ b) ∧ r = zI 1 ∨ ¬ (a ≤ v ∧ v ≤ b) ∧ r = zI 0) ∧ M1 = M) := by
  refine s_any (by decide) (Nat.le_of_ble_eq_true rfl) ?_
  intro p e s m below meth c ls F hr hlocks w hl
  have F : CallFix p m c cX12_in 3 s _ TB RX12 := F
  have hx := F.1
  have hb := F.2.1
  have hl : lv_has ls 3 [(0, .int (zI v)), (1, .int (zI a)), (2, .int (zI b))] := hl
  refine lv_iload_n hx hb rdX12_in_0 rfl (lv_at hl 0 rfl) ?_
  refine lv_iload_n hx hb rdX12_in_1 rfl (lv_at hl 1 rfl) ?_
  refine z_icmp_lt (tgt := 14) hx hb (by omega) (by omega) rdX12_in_2 (by decide) (fun c1 => ?_) (fun c1 => ?_)
  · refine lv_iconst (v := zI 0) hx hb rdX12_in_14 rfl ?_
    exact e_z F w hr hlocks (nar_z (by omega)) ⟨Or.inr ⟨by omega, rfl⟩, rfl⟩ rdX12_in_15
  · refine lv_iload_n hx hb rdX12_in_5 rfl (lv_at hl 0 rfl) ?_
    refine lv_iload_n hx hb rdX12_in_6 rfl (lv_at hl 2 rfl) ?_
    refine z_icmp_gt (tgt := 14) hx hb (by omega) (by omega) rdX12_in_7 (by decide) (fun c2 => ?_) (fun c2 => ?_)
    · refine lv_iconst (v := zI 0) hx hb rdX12_in_14 rfl ?_
      exact e_z F w hr hlocks (nar_z (by omega)) ⟨Or.inr ⟨by omega, rfl⟩, rfl⟩ rdX12_in_15
    · refine lv_iconst (v := zI 1) hx hb rdX12_in_10 rfl ?_
      refine lv_goto (tgt := 15) hx hb rdX12_in_11 (by decide) ?_
      exact e_z F w hr hlocks (nar_z (by omega)) ⟨Or.inl ⟨by omega, rfl⟩, rfl⟩ rdX12_in_15
theorem rdX12_isDigit_0 : decode cX12_isDigit 0 = .ok (.iload_n 0, 1) := dq0 kk_26 (by decide +kernel)
theorem rdX12_isDigit_1 : decode cX12_isDigit 1 = .ok (.bipush 48, 2) := dqS kk_16 (by decide +kernel)
theorem rdX12_isDigit_3 : decode cX12_isDigit 3 = .ok (.bipush 57, 2) := dqS kk_16 (by decide +kernel)
theorem rdX12_isDigit_5 : decode cX12_isDigit 5 = .ok (.invokestatic 55, 3) := dqV kk_184 (by decide +kernel)
theorem rtk_X12_in : Cond.code yX12_in cX12_in 3 (some .boolean) ∈ TB := tbm (tc5 (List.mem_of_getElem? (i := 148) rfl)) rfl
theorem rgc_X12_in : GoodIn TB (cw yX12_in cX12_in 3 (some .boolean)) := goodIn_c2 rtk_X12_in
theorem rtb_117 : Cond.methodLink "ToneLinesModel" 55 yX12_in ∈ TB := tbm (tc5 (List.mem_of_getElem? (i := 146) rfl)) rfl
theorem rtb_118 : Cond.static yX12_in ∈ TB := tbm (tc5 (List.mem_of_getElem? (i := 147) rfl)) rfl
theorem rtb_119 : Cond.initialized "ToneLinesModel" ∈ TB := tbm (tc1 (List.mem_of_getElem? (i := 13) rfl)) rfl
theorem rgs_X12_55 : GoodIn TB (va_wsS RX12 55 yX12_in (cw yX12_in cX12_in 3 (some .boolean))) := goodIn_3 rtb_117 rtb_118 rtb_119 rgc_X12_in
theorem rhs_X12_in : yX12_in.cls ≠ "java/lang/invoke/MethodHandle" ∧ yX12_in.cls ≠ "java/lang/invoke/VarHandle" ∧ (parseMethodDescriptor yX12_in.desc).map (fun d => d.parameters.length) = some 3 := by decide +kernel
theorem rdX12_isDigit_8 : decode cX12_isDigit 8 = .ok (.ireturn, 1) := dq0 kk_172 (by decide +kernel)
set_option maxRecDepth 4000 in
theorem t_isDigit {l : Launch} {D : va_G} {B : Nat} {cy : Nat → ClassId} {M : Mem} {z : Int} (hz : rg z) : Ci l D B cy yX12_isDigit cX12_isDigit 1 (some .boolean) 1 22 [.int (zI z)] M (fun r M1 => ((48 ≤ z ∧ z ≤ 57) ∧ r = zI 1 ∨ ¬ (48 ≤ z ∧ z ≤ 57) ∧ r = zI 0) ∧ M1 = M) := by
  refine s_any (by decide) (Nat.le_of_ble_eq_true rfl) ?_
  intro p e s m below meth c ls F hr hlocks w hl
  have F : CallFix p m c cX12_isDigit 1 s _ TB RX12 := F
  have hx := F.1
  have hb := F.2.1
  have hl : lv_has ls 1 [(0, .int (zI z))] := hl
  refine lv_iload_n hx hb rdX12_isDigit_0 rfl (lv_at hl 0 rfl) ?_
  refine lv_bipush (v := zI 48) hx hb rdX12_isDigit_1 (by decide) ?_
  refine lv_bipush (v := zI 57) hx hb rdX12_isDigit_3 (by decide) ?_
  refine k_Si F w (As := [.int (zI z), .int (zI 48), .int (zI 57)]) (rest := []) (t_in (v := z) (a := 48) (b := 57) (by omega) (by omega) (by omega)) rgs_X12_55 rhs_X12_in ⟨(Nat.le_of_ble_eq_true rfl), (Nat.le_of_ble_eq_true rfl)⟩ hl.1 rfl (Nat.le_of_ble_eq_true rfl) ⟨Nat.zero_le _, Nat.zero_le _⟩ rdX12_isDigit_5 (fun r Ma2 H locs hp w => ?_)
  rcases hp with ⟨⟨hb1, rfl⟩ | ⟨hb1, rfl⟩, hMe⟩
  · rw [hMe] at w
    exact e_z F w hr hlocks (nar_z (by omega)) ⟨Or.inl ⟨by omega, rfl⟩, rfl⟩ rdX12_isDigit_8
  · rw [hMe] at w
    exact e_z F w hr hlocks (nar_z (by omega)) ⟨Or.inr ⟨by omega, rfl⟩, rfl⟩ rdX12_isDigit_8
theorem rdX12_hasSide_0 : decode cX12_hasSide 0 = .ok (.iload_n 0, 1) := dq0 kk_26 (by decide +kernel)
theorem rdX12_hasSide_1 : decode cX12_hasSide 1 = .ok (.iconst 2, 1) := dq0 kk_5 (by decide +kernel)
theorem rdX12_hasSide_2 : decode cX12_hasSide 2 = .ok (.if_icmp .le 8, 3) := dqT kk_164 (by decide +kernel)
theorem rdX12_hasSide_10 : decode cX12_hasSide 10 = .ok (.iconst 1, 1) := dq0 kk_4 (by decide +kernel)
theorem rdX12_hasSide_11 : decode cX12_hasSide 11 = .ok (.goto 4, 3) := dqT kk_167 (by decide +kernel)
theorem rdX12_hasSide_15 : decode cX12_hasSide 15 = .ok (.ireturn, 1) := dq0 kk_172 (by decide +kernel)
theorem rdX12_hasSide_5 : decode cX12_hasSide 5 = .ok (.iload_n 0, 1) := dq0 kk_26 (by decide +kernel)
theorem rdX12_hasSide_6 : decode cX12_hasSide 6 = .ok (.iconst 4, 1) := dq0 kk_7 (by decide +kernel)
theorem rdX12_hasSide_7 : decode cX12_hasSide 7 = .ok (.if_icmp .ne 7, 3) := dqT kk_160 (by decide +kernel)
theorem rdX12_hasSide_14 : decode cX12_hasSide 14 = .ok (.iconst 0, 1) := dq0 kk_3 (by decide +kernel)
set_option maxRecDepth 4000 in
theorem t_hasSide {l : Launch} {D : va_G} {B : Nat} {cy : Nat → ClassId} {M : Mem} {z : Int} (hz : rg z) : Ci l D B cy yX12_hasSide cX12_hasSide 1 (some .boolean) 0 0 [.int (zI z)] M (fun r M1 => ((z ≤ 2 ∨ z = 4) ∧ r = zI 1 ∨ ¬ (z ≤ 2 ∨ z = 4) ∧ r = zI 0) ∧ M1 = M) := by
  refine s_any (by decide) (Nat.le_of_ble_eq_true rfl) ?_
  intro p e s m below meth c ls F hr hlocks w hl
  have F : CallFix p m c cX12_hasSide 1 s _ TB RX12 := F
  have hx := F.1
  have hb := F.2.1
  have hl : lv_has ls 1 [(0, .int (zI z))] := hl
  refine lv_iload_n hx hb rdX12_hasSide_0 rfl (lv_at hl 0 rfl) ?_
  refine lv_iconst (v := zI 2) hx hb rdX12_hasSide_1 rfl ?_
  refine z_icmp_le (tgt := 10) hx hb (by omega) (by omega) rdX12_hasSide_2 (by decide) (fun c1 => ?_) (fun c1 => ?_)
  · refine lv_iconst (v := zI 1) hx hb rdX12_hasSide_10 rfl ?_
    refine lv_goto (tgt := 15) hx hb rdX12_hasSide_11 (by decide) ?_
    exact e_z F w hr hlocks (nar_z (by omega)) ⟨Or.inl ⟨by omega, rfl⟩, rfl⟩ rdX12_hasSide_15
  · refine lv_iload_n hx hb rdX12_hasSide_5 rfl (lv_at hl 0 rfl) ?_
    refine lv_iconst (v := zI 4) hx hb rdX12_hasSide_6 rfl ?_
    refine z_icmp_ne (tgt := 14) hx hb (by omega) (by omega) rdX12_hasSide_7 (by decide) (fun c2 => ?_) (fun c2 => ?_)
    · refine lv_iconst (v := zI 0) hx hb rdX12_hasSide_14 rfl ?_
      exact e_z F w hr hlocks (nar_z (by omega)) ⟨Or.inr ⟨by omega, rfl⟩, rfl⟩ rdX12_hasSide_15
    · refine lv_iconst (v := zI 1) hx hb rdX12_hasSide_10 rfl ?_
      refine lv_goto (tgt := 15) hx hb rdX12_hasSide_11 (by decide) ?_
      exact e_z F w hr hlocks (nar_z (by omega)) ⟨Or.inl ⟨by omega, rfl⟩, rfl⟩ rdX12_hasSide_15
theorem rdX12_isBySyllables_0 : decode cX12_isBySyllables 0 = .ok (.iload_n 0, 1) := dq0 kk_26 (by decide +kernel)
theorem rdX12_isBySyllables_1 : decode cX12_isBySyllables 1 = .ok (.ifCond .eq 9, 3) := dqT kk_153 (by decide +kernel)
theorem rdX12_isBySyllables_10 : decode cX12_isBySyllables 10 = .ok (.iconst 1, 1) := dq0 kk_4 (by decide +kernel)
theorem rdX12_isBySyllables_11 : decode cX12_isBySyllables 11 = .ok (.goto 4, 3) := dqT kk_167 (by decide +kernel)
theorem rdX12_isBySyllables_15 : decode cX12_isBySyllables 15 = .ok (.ireturn, 1) := dq0 kk_172 (by decide +kernel)
theorem rdX12_isBySyllables_4 : decode cX12_isBySyllables 4 = .ok (.iload_n 0, 1) := dq0 kk_26 (by decide +kernel)
theorem rdX12_isBySyllables_5 : decode cX12_isBySyllables 5 = .ok (.bipush 8, 2) := dqS kk_16 (by decide +kernel)
theorem rdX12_isBySyllables_7 : decode cX12_isBySyllables 7 = .ok (.if_icmp .lt 7, 3) := dqT kk_161 (by decide +kernel)
theorem rdX12_isBySyllables_14 : decode cX12_isBySyllables 14 = .ok (.iconst 0, 1) := dq0 kk_3 (by decide +kernel)
set_option maxRecDepth 4000 in
theorem t_isBySyllables {l : Launch} {D : va_G} {B : Nat} {cy : Nat → ClassId} {M : Mem} {z : Int} (hz : rg z) : Ci l D B cy yX12_isBySyllables cX12_isBySyllables 1 (some .boolean) 0 0 [.int (zI z)] M (fun r M1 => ((z = 0 ∨ 8 ≤ z) ∧ r = zI 1 ∨ ¬ (z = 0 ∨ 8 ≤ z) ∧ r = zI 0) ∧ M1 = M) := by
  refine s_any (by decide) (Nat.le_of_ble_eq_true rfl) ?_
  intro p e s m below meth c ls F hr hlocks w hl
  have F : CallFix p m c cX12_isBySyllables 1 s _ TB RX12 := F
  have hx := F.1
  have hb := F.2.1
  have hl : lv_has ls 1 [(0, .int (zI z))] := hl
  refine lv_iload_n hx hb rdX12_isBySyllables_0 rfl (lv_at hl 0 rfl) ?_
  refine z_if_eq (tgt := 10) hx hb (by omega) rdX12_isBySyllables_1 (by decide) (fun c1 => ?_) (fun c1 => ?_)
  · refine lv_iconst (v := zI 1) hx hb rdX12_isBySyllables_10 rfl ?_
    refine lv_goto (tgt := 15) hx hb rdX12_isBySyllables_11 (by decide) ?_
    exact e_z F w hr hlocks (nar_z (by omega)) ⟨Or.inl ⟨by omega, rfl⟩, rfl⟩ rdX12_isBySyllables_15
  · refine lv_iload_n hx hb rdX12_isBySyllables_4 rfl (lv_at hl 0 rfl) ?_
    refine lv_bipush (v := zI 8) hx hb rdX12_isBySyllables_5 (by decide) ?_
    refine z_icmp_lt (tgt := 14) hx hb (by omega) (by omega) rdX12_isBySyllables_7 (by decide) (fun c2 => ?_) (fun c2 => ?_)
    · refine lv_iconst (v := zI 0) hx hb rdX12_isBySyllables_14 rfl ?_
      exact e_z F w hr hlocks (nar_z (by omega)) ⟨Or.inr ⟨by omega, rfl⟩, rfl⟩ rdX12_isBySyllables_15
    · refine lv_iconst (v := zI 1) hx hb rdX12_isBySyllables_10 rfl ?_
      refine lv_goto (tgt := 15) hx hb rdX12_isBySyllables_11 (by decide) ?_
      exact e_z F w hr hlocks (nar_z (by omega)) ⟨Or.inl ⟨by omega, rfl⟩, rfl⟩ rdX12_isBySyllables_15
theorem rdX12_here_0 : decode cX12_here 0 = .ok (.aload_n 0, 1) := dq0 kk_42 (by decide +kernel)
theorem rdX12_here_1 : decode cX12_here 1 = .ok (.getfield 172, 3) := dqV kk_180 (by decide +kernel)
theorem rtb_120 : Cond.fieldLink "ToneLinesModel" 172 "ToneLinesModel" "at" "I" ∈ TB := tbm (tc5 (List.mem_of_getElem? (i := 65) rfl)) rfl
theorem rdX12_here_4 : decode cX12_here 4 = .ok (.aload_n 0, 1) := dq0 kk_42 (by decide +kernel)
theorem rdX12_here_5 : decode cX12_here 5 = .ok (.getfield 169, 3) := dqV kk_180 (by decide +kernel)
theorem rtb_121 : Cond.fieldLink "ToneLinesModel" 169 "ToneLinesModel" "taped" "I" ∈ TB := tbm (tc5 (List.mem_of_getElem? (i := 64) rfl)) rfl
theorem rdX12_here_8 : decode cX12_here 8 = .ok (.if_icmp .ge 15, 3) := dqT kk_162 (by decide +kernel)
theorem rdX12_here_23 : decode cX12_here 23 = .ok (.iconst (-1), 1) := dq0 kk_2 (by decide +kernel)
theorem rdX12_here_24 : decode cX12_here 24 = .ok (.ireturn, 1) := dq0 kk_172 (by decide +kernel)
theorem rdX12_here_11 : decode cX12_here 11 = .ok (.aload_n 0, 1) := dq0 kk_42 (by decide +kernel)
theorem rdX12_here_12 : decode cX12_here 12 = .ok (.getfield 23, 3) := dqV kk_180 (by decide +kernel)
theorem rtb_122 : Cond.fieldLink "ToneLinesModel" 23 "ToneLinesModel" "tape" "[I" ∈ TB := tbm (tc5 (List.mem_of_getElem? (i := 63) rfl)) rfl
theorem rdX12_here_15 : decode cX12_here 15 = .ok (.aload_n 0, 1) := dq0 kk_42 (by decide +kernel)
theorem rdX12_here_16 : decode cX12_here 16 = .ok (.getfield 172, 3) := dqV kk_180 (by decide +kernel)
theorem rdX12_here_19 : decode cX12_here 19 = .ok (.iaload, 1) := dq0 kk_46 (by decide +kernel)
theorem rdX12_here_20 : decode cX12_here 20 = .ok (.goto 4, 3) := dqT kk_167 (by decide +kernel)
set_option maxRecDepth 4000 in
theorem t_here {l : Launch} {D : va_G} {B : Nat} {cy : Nat → ClassId} {M : Mem} {T : Nat → Nat} {tn : Nat} (hT : okT T tn) (hTr : isTr M T tn) {A : Nat} (hA : M.1 146 9 = zI (A : Int)) (hA9 : A ≤ 300) : Ci l D B cy yX12_here cX12_here 1 (some .int) 0 0 [.ref (B + 146)] M (fun r M1 => r = zI (sg T tn (A : Int)) ∧ M1 = M) := by
  refine s_any (by decide) (Nat.le_of_ble_eq_true rfl) ?_
  intro p e s m below meth c ls F hr hlocks w hl
  have F : CallFix p m c cX12_here 1 s _ TB RX12 := F
  have hx := F.1
  have hb := F.2.1
  have hl : lv_has ls 1 [(0, .ref (B + 146))] := hl
  have hN := hT.1
  refine lv_aload_n hx hb rdX12_here_0 rfl (lv_at hl 0 rfl) ?_
  refine f_12_9 F w (a := 146) rfl rtb_120 rdX12_here_1 ?_
  refine r_val (v := (zI (A : Int))) (hA) ?_
  refine lv_aload_n hx hb rdX12_here_4 rfl (lv_at hl 0 rfl) ?_
  refine f_12_8 F w (a := 146) rfl rtb_121 rdX12_here_5 ?_
  refine r_val (v := (zI (tn : Int))) (hTr.1) ?_
  refine z_icmp_ge (tgt := 23) hx hb (by omega) (by omega) rdX12_here_8 (by decide) (fun c1 => ?_) (fun c1 => ?_)
  · refine lv_iconst (v := zI (-1)) hx hb rdX12_here_23 rfl ?_
    exact e_i F w hr hlocks ⟨congrArg zI (sg_n (by omega)).symm, rfl⟩ rdX12_here_24
  · refine lv_aload_n hx hb rdX12_here_11 rfl (lv_at hl 0 rfl) ?_
    refine f_12_7 F w (a := 146) rfl rtb_122 rdX12_here_12 ?_
    refine lv_aload_n hx hb rdX12_here_15 rfl (lv_at hl 0 rfl) ?_
    refine f_12_9 F w (a := 146) rfl rtb_120 rdX12_here_16 ?_
    refine r_val (v := (zI (A : Int))) (hA) ?_
    refine g_iald F w (a := 150) rfl (j := A) (ix_n (by omega)) (by omega) rdX12_here_19 ?_
    have hs1 := hT.2 A
    refine r_val (v := (zI (((T A) : Nat) : Int))) (hTr.2 A (by omega)) ?_
    refine lv_goto (tgt := 24) hx hb rdX12_here_20 (by decide) ?_
    exact e_i F w hr hlocks ⟨congrArg zI (sg_y (by omega)).symm, rfl⟩ rdX12_here_24
theorem rdX12_blanks_0 : decode cX12_blanks 0 = .ok (.aload_n 0, 1) := dq0 kk_42 (by decide +kernel)
theorem rdX12_blanks_1 : decode cX12_blanks 1 = .ok (.invokevirtual 175, 3) := dqV kk_182 (by decide +kernel)
theorem rtk_X12_here : Cond.code yX12_here cX12_here 1 (some .int) ∈ TB := tbm (tc5 (List.mem_of_getElem? (i := 164) rfl)) rfl
theorem rgc_X12_here : GoodIn TB (cw yX12_here cX12_here 1 (some .int)) := goodIn_c2 rtk_X12_here
theorem rtb_123 : Cond.methodLink "ToneLinesModel" 175 yX12_here ∈ TB := tbm (tc5 (List.mem_of_getElem? (i := 161) rfl)) rfl
theorem rtb_124 : Cond.instanceMethod yX12_here ∈ TB := tbm (tc5 (List.mem_of_getElem? (i := 163) rfl)) rfl
theorem rtb_125 : Cond.selects "ToneLinesModel" yX12_here yX12_here ∈ TB := tbp (List.mem_of_getElem? (i := 39) rfl) rfl
theorem rgv_X12_175 : GoodIn TB (wsV RX12 175 RX12 yX12_here (cw yX12_here cX12_here 1 (some .int))) := goodIn_4 rtb_123 rtb_124 rtb_125 rtb_119 rgc_X12_here
theorem rhv_X12_here : yX12_here.cls = RX12 ∧ yX12_here.cls ≠ "java/lang/invoke/MethodHandle" ∧ yX12_here.cls ≠ "java/lang/invoke/VarHandle" ∧ (parseMethodDescriptor yX12_here.desc).map (fun d => d.parameters.length) = some 0 := by decide +kernel
theorem rdX12_blanks_4 : decode cX12_blanks 4 = .ok (.bipush 32, 2) := dqS kk_16 (by decide +kernel)
theorem rdX12_blanks_6 : decode cX12_blanks 6 = .ok (.if_icmp .ne 16, 3) := dqT kk_160 (by decide +kernel)
theorem rdX12_blanks_9 : decode cX12_blanks 9 = .ok (.aload_n 0, 1) := dq0 kk_42 (by decide +kernel)
theorem rdX12_blanks_10 : decode cX12_blanks 10 = .ok (.dup, 1) := dq0 kk_89 (by decide +kernel)
theorem rdX12_blanks_11 : decode cX12_blanks 11 = .ok (.getfield 172, 3) := dqV kk_180 (by decide +kernel)
theorem rdX12_blanks_14 : decode cX12_blanks 14 = .ok (.iconst 1, 1) := dq0 kk_4 (by decide +kernel)
theorem rdX12_blanks_15 : decode cX12_blanks 15 = .ok (.iadd, 1) := dq0 kk_96 (by decide +kernel)
theorem rdX12_blanks_16 : decode cX12_blanks 16 = .ok (.putfield 172, 3) := dqV kk_181 (by decide +kernel)
theorem rdX12_blanks_19 : decode cX12_blanks 19 = .ok (.goto (-19), 3) := dqT kk_167 (by decide +kernel)
set_option maxRecDepth 4000 in
theorem lp_X12_blanks {p : Program} {l : Launch} {e : Env} {s : State} {m : MethodId} {args : Array Value} {below : List Frame} {meth : Method} {c : Code} {D : va_G} {B : Nat} {cy : Nat → ClassId} {H0 : Heap} {Q : State → Prop} {M : Mem} {R : Room} {T : Nat → Nat} {tn A : Nat} (F : CallFix p m c cX12_blanks 1 s args TB RX12) (hR1 : 1 ≤ R.frames) (hR2 : 20 ≤ R.locals) (hT : okT T tn) (kk : ∀ (k : Nat) (Nm : Mem) (H : Heap) (locs : List Loc) (ls : Array Slot), (k = sk T tn A) → (Nm.1 146 9 = zI (k : Int)) → (Fr9 Nm M) → Wd D B cy s H0 Nm H locs → lv_has ls 1 [(0, .ref (B + 146))] → W p l e R s m args below meth c H locs 0 0 Q (F0 m 22 ls [])) : ∀ (f : Nat) (k : Nat) (Nm : Mem), (k ≤ tn) → (sk T tn k = sk T tn A) → (Nm.1 146 9 = zI (k : Int)) → (isTr Nm T tn) → (Fr9 Nm M) → (tn ≤ k + f) → ∀ (H : Heap) (locs : List Loc) (ls : Array Slot), Wd D B cy s H0 Nm H locs → lv_has ls 1 [(0, .ref (B + 146))] → W p l e R s m args below meth c H locs 0 0 Q (F0 m 0 ls []) := by
  have hx := F.1
  have hb := F.2.1
  have hN := hT.1
  intro f
  induction f with
  | zero =>
    intro k Nm i0 i1 i2 i3 i4 hf H locs ls w hl
    refine lv_aload_n hx hb rdX12_blanks_0 rfl (lv_at hl 0 rfl) ?_
    refine x_Vi F w (As := []) (rest := []) (a := 146) (kd_lt (a := 146) (show kd 146 = (12, 0, 0) from rfl) (by decide)) (sh_12 rfl _ _) rfl (t_here hT i3 (A := k) i2 (by omega)) rgv_X12_175 rhv_X12_here ⟨(by omega), (by omega)⟩ hl.1 rfl (Nat.le_of_ble_eq_true rfl) ⟨Nat.zero_le _, Nat.zero_le _⟩ rdX12_blanks_1 (fun H locs w => ?_)
    have hg0 := sg_rg hT (k : Int)
    have hh0 := sg_c (T := T) (N := tn) k
    refine lv_bipush (v := zI 32) hx hb rdX12_blanks_4 (by decide) ?_
    refine z_icmp_ne (tgt := 22) hx hb (by omega) (by omega) rdX12_blanks_6 (by decide) (fun c2 => ?_) (fun c2 => False.elim (by omega))
    exact kk k Nm _ _ ls ((sk_e (by omega)).symm.trans i1) i2 i4 w (lv_sub hl [0] rfl)
  | succ f ih =>
    intro k Nm i0 i1 i2 i3 i4 hf H locs ls w hl
    refine lv_aload_n hx hb rdX12_blanks_0 rfl (lv_at hl 0 rfl) ?_
    refine x_Vi F w (As := []) (rest := []) (a := 146) (kd_lt (a := 146) (show kd 146 = (12, 0, 0) from rfl) (by decide)) (sh_12 rfl _ _) rfl (t_here hT i3 (A := k) i2 (by omega)) rgv_X12_175 rhv_X12_here ⟨(by omega), (by omega)⟩ hl.1 rfl (Nat.le_of_ble_eq_true rfl) ⟨Nat.zero_le _, Nat.zero_le _⟩ rdX12_blanks_1 (fun H locs w => ?_)
    have hg0 := sg_rg hT (k : Int)
    have hh0 := sg_c (T := T) (N := tn) k
    refine lv_bipush (v := zI 32) hx hb rdX12_blanks_4 (by decide) ?_
    refine z_icmp_ne (tgt := 22) hx hb (by omega) (by omega) rdX12_blanks_6 (by decide) (fun c2 => ?_) (fun c2 => ?_)
    · exact kk k Nm _ _ ls ((sk_e (by omega)).symm.trans i1) i2 i4 w (lv_sub hl [0] rfl)
    · refine lv_aload_n hx hb rdX12_blanks_9 rfl (lv_at hl 0 rfl) ?_
      refine lv_dup hx hb rdX12_blanks_10 rfl ?_
      refine f_12_9 F w (a := 146) rfl rtb_120 rdX12_blanks_11 ?_
      refine r_val (v := (zI (k : Int))) (i2) ?_
      refine lv_iconst (v := zI 1) hx hb rdX12_blanks_14 rfl ?_
      refine z_iadd (z := (((k + 1) : Nat) : Int)) hx hb rdX12_blanks_15 (by omega) ?_
      refine u_12_9 F w (a := 146) rfl rtb_120 rdX12_blanks_16 (fun H locs w => ?_)
      refine lv_goto (tgt := 0) hx hb rdX12_blanks_19 (by decide) ?_
      exact ih (k + 1) (st Nm 146 9 (zI (((k + 1) : Nat) : Int))) (by omega) ((sk_s (by omega) (by omega)).symm.trans i1) st_at (isTr.o i3 (Or.inr (by decide)) (by decide)) (Fr9.to i4) (by omega) _ _ ls w (lv_sub hl [0] rfl)
theorem rdX12_blanks_22 : decode cX12_blanks 22 = .ok (.return_, 1) := dq0 kk_177 (by decide +kernel)
set_option maxRecDepth 4000 in
theorem t_blanks {l : Launch} {D : va_G} {B : Nat} {cy : Nat → ClassId} {M : Mem} {T : Nat → Nat} {tn : Nat} (hT : okT T tn) (hTr : isTr M T tn) {A : Nat} (hA : M.1 146 9 = zI (A : Int)) (hA9 : A ≤ tn) : Cv l D B cy yX12_blanks cX12_blanks 1 1 20 [.ref (B + 146)] M (fun M1 => M1.1 146 9 = zI ((sk T tn A : Nat) : Int) ∧ Fr9 M1 M) := by
  refine s_any (by decide) (Nat.le_of_ble_eq_true rfl) ?_
  intro p e s m below meth c ls F hr hlocks w hl
  have F : CallFix p m c cX12_blanks 1 s _ TB RX12 := F
  have hx := F.1
  have hb := F.2.1
  have hl : lv_has ls 1 [(0, .ref (B + 146))] := hl
  have hN := hT.1
  refine lp_X12_blanks  F (Nat.le_of_ble_eq_true rfl) (Nat.le_of_ble_eq_true rfl) hT (fun k Nm H locs ls x0 x1 x2 w hl => ?_) tn A M (by omega) rfl hA hTr Fr9.rf (by omega) _ _ ls w (lv_sub hl [0] rfl)
  subst x0
  exact e_v F w hr hlocks ⟨x1, x2⟩ rdX12_blanks_22
theorem rdX12_wordAt_18 : decode cX12_wordAt 18 = .ok (.aload_n 0, 1) := dq0 kk_42 (by decide +kernel)
theorem rdX12_wordAt_19 : decode cX12_wordAt 19 = .ok (.getfield 29, 3) := dqV kk_180 (by decide +kernel)
theorem rtb_126 : Cond.fieldLink "ToneLinesModel" 29 "ToneLinesModel" "words" "[B" ∈ TB := tbm (tc5 (List.mem_of_getElem? (i := 68) rfl)) rfl
theorem rdX12_wordAt_22 : decode cX12_wordAt 22 = .ok (.iload_n 3, 1) := dq0 kk_29 (by decide +kernel)
theorem rdX12_wordAt_23 : decode cX12_wordAt 23 = .ok (.baload, 1) := dq0 kk_51 (by decide +kernel)
theorem rdX12_wordAt_24 : decode cX12_wordAt 24 = .ok (.ifCond .eq 50, 3) := dqT kk_153 (by decide +kernel)
theorem rdX12_wordAt_27 : decode cX12_wordAt 27 = .ok (.iload 6, 2) := dqU kk_21 (by decide +kernel)
theorem rdX12_wordAt_29 : decode cX12_wordAt 29 = .ok (.ifCond .eq 33, 3) := dqT kk_153 (by decide +kernel)
theorem rdX12_wordAt_62 : decode cX12_wordAt 62 = .ok (.iconst 0, 1) := dq0 kk_3 (by decide +kernel)
theorem rdX12_wordAt_63 : decode cX12_wordAt 63 = .ok (.istore 6, 2) := dqU kk_54 (by decide +kernel)
theorem rdX12_wordAt_65 : decode cX12_wordAt 65 = .ok (.iinc 5 1, 3) := dqI kk_132 (by decide +kernel)
theorem rdX12_wordAt_68 : decode cX12_wordAt 68 = .ok (.iinc 3 1, 3) := dqI kk_132 (by decide +kernel)
theorem rdX12_wordAt_71 : decode cX12_wordAt 71 = .ok (.goto (-53), 3) := dqT kk_167 (by decide +kernel)
theorem rdX12_wordAt_32 : decode cX12_wordAt 32 = .ok (.iload_n 1, 1) := dq0 kk_27 (by decide +kernel)
theorem rdX12_wordAt_33 : decode cX12_wordAt 33 = .ok (.iload 5, 2) := dqU kk_21 (by decide +kernel)
theorem rdX12_wordAt_35 : decode cX12_wordAt 35 = .ok (.iadd, 1) := dq0 kk_96 (by decide +kernel)
theorem rdX12_wordAt_36 : decode cX12_wordAt 36 = .ok (.iload_n 2, 1) := dq0 kk_28 (by decide +kernel)
theorem rdX12_wordAt_37 : decode cX12_wordAt 37 = .ok (.if_icmp .ge 25, 3) := dqT kk_162 (by decide +kernel)
theorem rdX12_wordAt_40 : decode cX12_wordAt 40 = .ok (.aload_n 0, 1) := dq0 kk_42 (by decide +kernel)
theorem rdX12_wordAt_41 : decode cX12_wordAt 41 = .ok (.getfield 23, 3) := dqV kk_180 (by decide +kernel)
theorem rdX12_wordAt_44 : decode cX12_wordAt 44 = .ok (.iload_n 1, 1) := dq0 kk_27 (by decide +kernel)
theorem rdX12_wordAt_45 : decode cX12_wordAt 45 = .ok (.iload 5, 2) := dqU kk_21 (by decide +kernel)
theorem rdX12_wordAt_47 : decode cX12_wordAt 47 = .ok (.iadd, 1) := dq0 kk_96 (by decide +kernel)
theorem rdX12_wordAt_48 : decode cX12_wordAt 48 = .ok (.iaload, 1) := dq0 kk_46 (by decide +kernel)
theorem rdX12_wordAt_49 : decode cX12_wordAt 49 = .ok (.aload_n 0, 1) := dq0 kk_42 (by decide +kernel)
theorem rdX12_wordAt_50 : decode cX12_wordAt 50 = .ok (.getfield 29, 3) := dqV kk_180 (by decide +kernel)
theorem rdX12_wordAt_53 : decode cX12_wordAt 53 = .ok (.iload_n 3, 1) := dq0 kk_29 (by decide +kernel)
theorem rdX12_wordAt_54 : decode cX12_wordAt 54 = .ok (.baload, 1) := dq0 kk_51 (by decide +kernel)
theorem rdX12_wordAt_55 : decode cX12_wordAt 55 = .ok (.if_icmp .ne 7, 3) := dqT kk_160 (by decide +kernel)
theorem rdX12_wordAt_58 : decode cX12_wordAt 58 = .ok (.iconst 1, 1) := dq0 kk_4 (by decide +kernel)
theorem rdX12_wordAt_59 : decode cX12_wordAt 59 = .ok (.goto 4, 3) := dqT kk_167 (by decide +kernel)
set_option maxRecDepth 4000 in
theorem lp_X12_wordAt2 {p : Program} {l : Launch} {e : Env} {s : State} {m : MethodId} {args : Array Value} {below : List Frame} {meth : Method} {c : Code} {D : va_G} {B : Nat} {cy : Nat → ClassId} {H0 : Heap} {Q : State → Prop} {M : Mem} {R : Room} {T : Nat → Nat} {tn s9 e9 n : Nat} (F : CallFix p m c cX12_wordAt 7 s args TB RX12) (hR1 : 0 ≤ R.frames) (hR2 : 0 ≤ R.locals) (hT : okT T tn) (hTr : isTr M T tn) (hWd : isWd M) (hse : s9 ≤ e9) (he9 : e9 ≤ tn) (hn9 : n < 29) (kk : ∀ (k : Nat) (i : Nat) (z : Nat) (H : Heap) (locs : List Loc) (ls : Array Slot), (i ≤ k) → (wrem k n) → (swI T s9 e9 k n (s9 + i) z) → (WB.getD k 0 = 0) → (z = 0 ∨ z = 1) → Wd D B cy s H0 M H locs → lv_has ls 7 [(6, .int (zI (z : Int))), (5, .int (zI (i : Int))), (4, .int (zI (n : Int))), (3, .int (zI (k : Int))), (0, .ref (B + 146)), (1, .int (zI (s9 : Int))), (2, .int (zI (e9 : Int)))] → W p l e R s m args below meth c H locs 0 0 Q (F0 m 74 ls [])) : ∀ (f : Nat) (k : Nat) (i : Nat) (z : Nat), (i ≤ k) → (wrem k n) → (swI T s9 e9 k n (s9 + i) z) → (z = 0 ∨ z = 1) → (147 ≤ k + f) → ∀ (H : Heap) (locs : List Loc) (ls : Array Slot), Wd D B cy s H0 M H locs → lv_has ls 7 [(6, .int (zI (z : Int))), (5, .int (zI (i : Int))), (4, .int (zI (n : Int))), (3, .int (zI (k : Int))), (0, .ref (B + 146)), (1, .int (zI (s9 : Int))), (2, .int (zI (e9 : Int)))] → W p l e R s m args below meth c H locs 0 0 Q (F0 m 18 ls []) := by
  have hx := F.1
  have hb := F.2.1
  have hN := hT.1
  intro f
  induction f with
  | zero =>
    intro k i z i0 i1 i2 i3 hf H locs ls w hl
    have hk9 := wrem_k i1
    refine lv_aload_n hx hb rdX12_wordAt_18 rfl (lv_at hl 4 rfl) ?_
    refine f_12_12 F w (a := 146) rfl rtb_126 rdX12_wordAt_19 ?_
    refine lv_iload_n hx hb rdX12_wordAt_22 rfl (lv_at hl 3 rfl) ?_
    refine g_bald F w (a := 152) rfl (j := k) (ix_n (by omega)) (by omega) rdX12_wordAt_23 ?_
    have hw0 := WB_b k (wrem_k i1)
    have hwk0 := wrem_k i1
    refine r_val (v := (zI (((WB.getD k 0) : Nat) : Int))) (hWd k (wrem_k i1)) ?_
    refine z_if_eq (tgt := 74) hx hb (by omega) rdX12_wordAt_24 (by decide) (fun c1 => ?_) (fun c1 => ?_)
    · exact kk k i z _ _ ls i0 i1 i2 (by omega) i3 w (lv_sub hl [0, 1, 2, 3, 4, 5, 6] rfl)
    · refine lv_iload hx hb rdX12_wordAt_27 (lv_at hl 0 rfl) ?_
      refine z_if_eq (tgt := 62) hx hb (by omega) rdX12_wordAt_29 (by decide) (fun c2 => ?_) (fun c2 => ?_)
      · refine lv_iconst (v := zI 0) hx hb rdX12_wordAt_62 rfl ?_
        refine lv_istore (lv' := [(6, .int (zI 0)), (5, .int (zI (i : Int))), (4, .int (zI (n : Int))), (3, .int (zI (k : Int))), (0, .ref (B + 146)), (1, .int (zI (s9 : Int))), (2, .int (zI (e9 : Int)))]) hx hb rdX12_wordAt_63 hl (by decide) rfl (fun ls hl => ?_)
        refine z_iinc (v := (((i + 1) : Nat) : Int)) (lv' := [(5, .int (zI (((i + 1) : Nat) : Int))), (6, .int (zI 0)), (4, .int (zI (n : Int))), (3, .int (zI (k : Int))), (0, .ref (B + 146)), (1, .int (zI (s9 : Int))), (2, .int (zI (e9 : Int)))]) hx hb rdX12_wordAt_65 hl (k := 1) rfl (by omega) (by decide) rfl (fun ls hl => ?_)
        refine z_iinc (v := (((k + 1) : Nat) : Int)) (lv' := [(3, .int (zI (((k + 1) : Nat) : Int))), (5, .int (zI (((i + 1) : Nat) : Int))), (6, .int (zI 0)), (4, .int (zI (n : Int))), (0, .ref (B + 146)), (1, .int (zI (s9 : Int))), (2, .int (zI (e9 : Int)))]) hx hb rdX12_wordAt_68 hl (k := 3) rfl (by omega) (by decide) rfl (fun ls hl => ?_)
        refine lv_goto (tgt := 18) hx hb rdX12_wordAt_71 (by decide) ?_
        exact False.elim (by omega)
      · refine lv_iload_n hx hb rdX12_wordAt_32 rfl (lv_at hl 5 rfl) ?_
        refine lv_iload hx hb rdX12_wordAt_33 (lv_at hl 1 rfl) ?_
        refine z_iadd (z := (((s9 + i) : Nat) : Int)) hx hb rdX12_wordAt_35 (by omega) ?_
        refine lv_iload_n hx hb rdX12_wordAt_36 rfl (lv_at hl 6 rfl) ?_
        refine z_icmp_ge (tgt := 62) hx hb (by omega) (by omega) rdX12_wordAt_37 (by decide) (fun c3 => ?_) (fun c3 => ?_)
        · refine lv_iconst (v := zI 0) hx hb rdX12_wordAt_62 rfl ?_
          refine lv_istore (lv' := [(6, .int (zI 0)), (5, .int (zI (i : Int))), (4, .int (zI (n : Int))), (3, .int (zI (k : Int))), (0, .ref (B + 146)), (1, .int (zI (s9 : Int))), (2, .int (zI (e9 : Int)))]) hx hb rdX12_wordAt_63 hl (by decide) rfl (fun ls hl => ?_)
          refine z_iinc (v := (((i + 1) : Nat) : Int)) (lv' := [(5, .int (zI (((i + 1) : Nat) : Int))), (6, .int (zI 0)), (4, .int (zI (n : Int))), (3, .int (zI (k : Int))), (0, .ref (B + 146)), (1, .int (zI (s9 : Int))), (2, .int (zI (e9 : Int)))]) hx hb rdX12_wordAt_65 hl (k := 1) rfl (by omega) (by decide) rfl (fun ls hl => ?_)
          refine z_iinc (v := (((k + 1) : Nat) : Int)) (lv' := [(3, .int (zI (((k + 1) : Nat) : Int))), (5, .int (zI (((i + 1) : Nat) : Int))), (6, .int (zI 0)), (4, .int (zI (n : Int))), (0, .ref (B + 146)), (1, .int (zI (s9 : Int))), (2, .int (zI (e9 : Int)))]) hx hb rdX12_wordAt_68 hl (k := 3) rfl (by omega) (by decide) rfl (fun ls hl => ?_)
          refine lv_goto (tgt := 18) hx hb rdX12_wordAt_71 (by decide) ?_
          exact False.elim (by omega)
        · refine lv_aload_n hx hb rdX12_wordAt_40 rfl (lv_at hl 4 rfl) ?_
          refine f_12_7 F w (a := 146) rfl rtb_122 rdX12_wordAt_41 ?_
          refine lv_iload_n hx hb rdX12_wordAt_44 rfl (lv_at hl 5 rfl) ?_
          refine lv_iload hx hb rdX12_wordAt_45 (lv_at hl 1 rfl) ?_
          refine z_iadd (z := (((s9 + i) : Nat) : Int)) hx hb rdX12_wordAt_47 (by omega) ?_
          refine g_iald F w (a := 150) rfl (j := (s9 + i)) (ix_n (by omega)) (by omega) rdX12_wordAt_48 ?_
          have hs3 := hT.2 (s9 + i)
          refine r_val (v := (zI (((T (s9 + i)) : Nat) : Int))) (hTr.2 (s9 + i) (by omega)) ?_
          refine lv_aload_n hx hb rdX12_wordAt_49 rfl (lv_at hl 4 rfl) ?_
          refine f_12_12 F w (a := 146) rfl rtb_126 rdX12_wordAt_50 ?_
          refine lv_iload_n hx hb rdX12_wordAt_53 rfl (lv_at hl 3 rfl) ?_
          refine g_bald F w (a := 152) rfl (j := k) (ix_n (by omega)) (by omega) rdX12_wordAt_54 ?_
          have hw3 := WB_b k (wrem_k i1)
          have hwk3 := wrem_k i1
          refine r_val (v := (zI (((WB.getD k 0) : Nat) : Int))) (hWd k (wrem_k i1)) ?_
          refine z_icmp_ne (tgt := 62) hx hb (by omega) (by omega) rdX12_wordAt_55 (by decide) (fun c4 => ?_) (fun c4 => ?_)
          · refine lv_iconst (v := zI 0) hx hb rdX12_wordAt_62 rfl ?_
            refine lv_istore (lv' := [(6, .int (zI 0)), (5, .int (zI (i : Int))), (4, .int (zI (n : Int))), (3, .int (zI (k : Int))), (0, .ref (B + 146)), (1, .int (zI (s9 : Int))), (2, .int (zI (e9 : Int)))]) hx hb rdX12_wordAt_63 hl (by decide) rfl (fun ls hl => ?_)
            refine z_iinc (v := (((i + 1) : Nat) : Int)) (lv' := [(5, .int (zI (((i + 1) : Nat) : Int))), (6, .int (zI 0)), (4, .int (zI (n : Int))), (3, .int (zI (k : Int))), (0, .ref (B + 146)), (1, .int (zI (s9 : Int))), (2, .int (zI (e9 : Int)))]) hx hb rdX12_wordAt_65 hl (k := 1) rfl (by omega) (by decide) rfl (fun ls hl => ?_)
            refine z_iinc (v := (((k + 1) : Nat) : Int)) (lv' := [(3, .int (zI (((k + 1) : Nat) : Int))), (5, .int (zI (((i + 1) : Nat) : Int))), (6, .int (zI 0)), (4, .int (zI (n : Int))), (0, .ref (B + 146)), (1, .int (zI (s9 : Int))), (2, .int (zI (e9 : Int)))]) hx hb rdX12_wordAt_68 hl (k := 3) rfl (by omega) (by decide) rfl (fun ls hl => ?_)
            refine lv_goto (tgt := 18) hx hb rdX12_wordAt_71 (by decide) ?_
            exact False.elim (by omega)
          · refine lv_iconst (v := zI 1) hx hb rdX12_wordAt_58 rfl ?_
            refine lv_goto (tgt := 63) hx hb rdX12_wordAt_59 (by decide) ?_
            refine lv_istore (lv' := [(6, .int (zI 1)), (5, .int (zI (i : Int))), (4, .int (zI (n : Int))), (3, .int (zI (k : Int))), (0, .ref (B + 146)), (1, .int (zI (s9 : Int))), (2, .int (zI (e9 : Int)))]) hx hb rdX12_wordAt_63 hl (by decide) rfl (fun ls hl => ?_)
            refine z_iinc (v := (((i + 1) : Nat) : Int)) (lv' := [(5, .int (zI (((i + 1) : Nat) : Int))), (6, .int (zI 1)), (4, .int (zI (n : Int))), (3, .int (zI (k : Int))), (0, .ref (B + 146)), (1, .int (zI (s9 : Int))), (2, .int (zI (e9 : Int)))]) hx hb rdX12_wordAt_65 hl (k := 1) rfl (by omega) (by decide) rfl (fun ls hl => ?_)
            refine z_iinc (v := (((k + 1) : Nat) : Int)) (lv' := [(3, .int (zI (((k + 1) : Nat) : Int))), (5, .int (zI (((i + 1) : Nat) : Int))), (6, .int (zI 1)), (4, .int (zI (n : Int))), (0, .ref (B + 146)), (1, .int (zI (s9 : Int))), (2, .int (zI (e9 : Int)))]) hx hb rdX12_wordAt_68 hl (k := 3) rfl (by omega) (by decide) rfl (fun ls hl => ?_)
            refine lv_goto (tgt := 18) hx hb rdX12_wordAt_71 (by decide) ?_
            exact False.elim (by omega)
  | succ f ih =>
    intro k i z i0 i1 i2 i3 hf H locs ls w hl
    have hk9 := wrem_k i1
    refine lv_aload_n hx hb rdX12_wordAt_18 rfl (lv_at hl 4 rfl) ?_
    refine f_12_12 F w (a := 146) rfl rtb_126 rdX12_wordAt_19 ?_
    refine lv_iload_n hx hb rdX12_wordAt_22 rfl (lv_at hl 3 rfl) ?_
    refine g_bald F w (a := 152) rfl (j := k) (ix_n (by omega)) (by omega) rdX12_wordAt_23 ?_
    have hw0 := WB_b k (wrem_k i1)
    have hwk0 := wrem_k i1
    refine r_val (v := (zI (((WB.getD k 0) : Nat) : Int))) (hWd k (wrem_k i1)) ?_
    refine z_if_eq (tgt := 74) hx hb (by omega) rdX12_wordAt_24 (by decide) (fun c1 => ?_) (fun c1 => ?_)
    · exact kk k i z _ _ ls i0 i1 i2 (by omega) i3 w (lv_sub hl [0, 1, 2, 3, 4, 5, 6] rfl)
    · refine lv_iload hx hb rdX12_wordAt_27 (lv_at hl 0 rfl) ?_
      refine z_if_eq (tgt := 62) hx hb (by omega) rdX12_wordAt_29 (by decide) (fun c2 => ?_) (fun c2 => ?_)
      · refine lv_iconst (v := zI 0) hx hb rdX12_wordAt_62 rfl ?_
        refine lv_istore (lv' := [(6, .int (zI 0)), (5, .int (zI (i : Int))), (4, .int (zI (n : Int))), (3, .int (zI (k : Int))), (0, .ref (B + 146)), (1, .int (zI (s9 : Int))), (2, .int (zI (e9 : Int)))]) hx hb rdX12_wordAt_63 hl (by decide) rfl (fun ls hl => ?_)
        refine z_iinc (v := (((i + 1) : Nat) : Int)) (lv' := [(5, .int (zI (((i + 1) : Nat) : Int))), (6, .int (zI 0)), (4, .int (zI (n : Int))), (3, .int (zI (k : Int))), (0, .ref (B + 146)), (1, .int (zI (s9 : Int))), (2, .int (zI (e9 : Int)))]) hx hb rdX12_wordAt_65 hl (k := 1) rfl (by omega) (by decide) rfl (fun ls hl => ?_)
        refine z_iinc (v := (((k + 1) : Nat) : Int)) (lv' := [(3, .int (zI (((k + 1) : Nat) : Int))), (5, .int (zI (((i + 1) : Nat) : Int))), (6, .int (zI 0)), (4, .int (zI (n : Int))), (0, .ref (B + 146)), (1, .int (zI (s9 : Int))), (2, .int (zI (e9 : Int)))]) hx hb rdX12_wordAt_68 hl (k := 3) rfl (by omega) (by decide) rfl (fun ls hl => ?_)
        refine lv_goto (tgt := 18) hx hb rdX12_wordAt_71 (by decide) ?_
        exact ih (k + 1) (i + 1) 0 (by omega) (wrem_n i1 (by omega)) (swI_n (a := s9 + i) i2 (wrem_k i1) (by omega) (by omega)) (by omega) (by omega) _ _ ls w (lv_sub hl [2, 1, 3, 0, 4, 5, 6] rfl)
      · refine lv_iload_n hx hb rdX12_wordAt_32 rfl (lv_at hl 5 rfl) ?_
        refine lv_iload hx hb rdX12_wordAt_33 (lv_at hl 1 rfl) ?_
        refine z_iadd (z := (((s9 + i) : Nat) : Int)) hx hb rdX12_wordAt_35 (by omega) ?_
        refine lv_iload_n hx hb rdX12_wordAt_36 rfl (lv_at hl 6 rfl) ?_
        refine z_icmp_ge (tgt := 62) hx hb (by omega) (by omega) rdX12_wordAt_37 (by decide) (fun c3 => ?_) (fun c3 => ?_)
        · refine lv_iconst (v := zI 0) hx hb rdX12_wordAt_62 rfl ?_
          refine lv_istore (lv' := [(6, .int (zI 0)), (5, .int (zI (i : Int))), (4, .int (zI (n : Int))), (3, .int (zI (k : Int))), (0, .ref (B + 146)), (1, .int (zI (s9 : Int))), (2, .int (zI (e9 : Int)))]) hx hb rdX12_wordAt_63 hl (by decide) rfl (fun ls hl => ?_)
          refine z_iinc (v := (((i + 1) : Nat) : Int)) (lv' := [(5, .int (zI (((i + 1) : Nat) : Int))), (6, .int (zI 0)), (4, .int (zI (n : Int))), (3, .int (zI (k : Int))), (0, .ref (B + 146)), (1, .int (zI (s9 : Int))), (2, .int (zI (e9 : Int)))]) hx hb rdX12_wordAt_65 hl (k := 1) rfl (by omega) (by decide) rfl (fun ls hl => ?_)
          refine z_iinc (v := (((k + 1) : Nat) : Int)) (lv' := [(3, .int (zI (((k + 1) : Nat) : Int))), (5, .int (zI (((i + 1) : Nat) : Int))), (6, .int (zI 0)), (4, .int (zI (n : Int))), (0, .ref (B + 146)), (1, .int (zI (s9 : Int))), (2, .int (zI (e9 : Int)))]) hx hb rdX12_wordAt_68 hl (k := 3) rfl (by omega) (by decide) rfl (fun ls hl => ?_)
          refine lv_goto (tgt := 18) hx hb rdX12_wordAt_71 (by decide) ?_
          exact ih (k + 1) (i + 1) 0 (by omega) (wrem_n i1 (by omega)) (swI_n (a := s9 + i) i2 (wrem_k i1) (by omega) (by omega)) (by omega) (by omega) _ _ ls w (lv_sub hl [2, 1, 3, 0, 4, 5, 6] rfl)
        · refine lv_aload_n hx hb rdX12_wordAt_40 rfl (lv_at hl 4 rfl) ?_
          refine f_12_7 F w (a := 146) rfl rtb_122 rdX12_wordAt_41 ?_
          refine lv_iload_n hx hb rdX12_wordAt_44 rfl (lv_at hl 5 rfl) ?_
          refine lv_iload hx hb rdX12_wordAt_45 (lv_at hl 1 rfl) ?_
          refine z_iadd (z := (((s9 + i) : Nat) : Int)) hx hb rdX12_wordAt_47 (by omega) ?_
          refine g_iald F w (a := 150) rfl (j := (s9 + i)) (ix_n (by omega)) (by omega) rdX12_wordAt_48 ?_
          have hs3 := hT.2 (s9 + i)
          refine r_val (v := (zI (((T (s9 + i)) : Nat) : Int))) (hTr.2 (s9 + i) (by omega)) ?_
          refine lv_aload_n hx hb rdX12_wordAt_49 rfl (lv_at hl 4 rfl) ?_
          refine f_12_12 F w (a := 146) rfl rtb_126 rdX12_wordAt_50 ?_
          refine lv_iload_n hx hb rdX12_wordAt_53 rfl (lv_at hl 3 rfl) ?_
          refine g_bald F w (a := 152) rfl (j := k) (ix_n (by omega)) (by omega) rdX12_wordAt_54 ?_
          have hw3 := WB_b k (wrem_k i1)
          have hwk3 := wrem_k i1
          refine r_val (v := (zI (((WB.getD k 0) : Nat) : Int))) (hWd k (wrem_k i1)) ?_
          refine z_icmp_ne (tgt := 62) hx hb (by omega) (by omega) rdX12_wordAt_55 (by decide) (fun c4 => ?_) (fun c4 => ?_)
          · refine lv_iconst (v := zI 0) hx hb rdX12_wordAt_62 rfl ?_
            refine lv_istore (lv' := [(6, .int (zI 0)), (5, .int (zI (i : Int))), (4, .int (zI (n : Int))), (3, .int (zI (k : Int))), (0, .ref (B + 146)), (1, .int (zI (s9 : Int))), (2, .int (zI (e9 : Int)))]) hx hb rdX12_wordAt_63 hl (by decide) rfl (fun ls hl => ?_)
            refine z_iinc (v := (((i + 1) : Nat) : Int)) (lv' := [(5, .int (zI (((i + 1) : Nat) : Int))), (6, .int (zI 0)), (4, .int (zI (n : Int))), (3, .int (zI (k : Int))), (0, .ref (B + 146)), (1, .int (zI (s9 : Int))), (2, .int (zI (e9 : Int)))]) hx hb rdX12_wordAt_65 hl (k := 1) rfl (by omega) (by decide) rfl (fun ls hl => ?_)
            refine z_iinc (v := (((k + 1) : Nat) : Int)) (lv' := [(3, .int (zI (((k + 1) : Nat) : Int))), (5, .int (zI (((i + 1) : Nat) : Int))), (6, .int (zI 0)), (4, .int (zI (n : Int))), (0, .ref (B + 146)), (1, .int (zI (s9 : Int))), (2, .int (zI (e9 : Int)))]) hx hb rdX12_wordAt_68 hl (k := 3) rfl (by omega) (by decide) rfl (fun ls hl => ?_)
            refine lv_goto (tgt := 18) hx hb rdX12_wordAt_71 (by decide) ?_
            exact ih (k + 1) (i + 1) 0 (by omega) (wrem_n i1 (by omega)) (swI_n (a := s9 + i) i2 (wrem_k i1) (by omega) (by omega)) (by omega) (by omega) _ _ ls w (lv_sub hl [2, 1, 3, 0, 4, 5, 6] rfl)
          · refine lv_iconst (v := zI 1) hx hb rdX12_wordAt_58 rfl ?_
            refine lv_goto (tgt := 63) hx hb rdX12_wordAt_59 (by decide) ?_
            refine lv_istore (lv' := [(6, .int (zI 1)), (5, .int (zI (i : Int))), (4, .int (zI (n : Int))), (3, .int (zI (k : Int))), (0, .ref (B + 146)), (1, .int (zI (s9 : Int))), (2, .int (zI (e9 : Int)))]) hx hb rdX12_wordAt_63 hl (by decide) rfl (fun ls hl => ?_)
            refine z_iinc (v := (((i + 1) : Nat) : Int)) (lv' := [(5, .int (zI (((i + 1) : Nat) : Int))), (6, .int (zI 1)), (4, .int (zI (n : Int))), (3, .int (zI (k : Int))), (0, .ref (B + 146)), (1, .int (zI (s9 : Int))), (2, .int (zI (e9 : Int)))]) hx hb rdX12_wordAt_65 hl (k := 1) rfl (by omega) (by decide) rfl (fun ls hl => ?_)
            refine z_iinc (v := (((k + 1) : Nat) : Int)) (lv' := [(3, .int (zI (((k + 1) : Nat) : Int))), (5, .int (zI (((i + 1) : Nat) : Int))), (6, .int (zI 1)), (4, .int (zI (n : Int))), (0, .ref (B + 146)), (1, .int (zI (s9 : Int))), (2, .int (zI (e9 : Int)))]) hx hb rdX12_wordAt_68 hl (k := 3) rfl (by omega) (by decide) rfl (fun ls hl => ?_)
            refine lv_goto (tgt := 18) hx hb rdX12_wordAt_71 (by decide) ?_
            exact ih (k + 1) (i + 1) 1 (by omega) (wrem_n i1 (by omega)) (swI_y (a := s9 + i) i2 (wrem_k i1) (by omega) (by omega) (by omega) (by omega)) (by omega) (by omega) _ _ ls w (lv_sub hl [2, 1, 3, 0, 4, 5, 6] rfl)
theorem rdX12_wordAt_5 : decode cX12_wordAt 5 = .ok (.iload 4, 2) := dqU kk_21 (by decide +kernel)
theorem rdX12_wordAt_7 : decode cX12_wordAt 7 = .ok (.bipush 29, 2) := dqS kk_16 (by decide +kernel)
theorem rdX12_wordAt_9 : decode cX12_wordAt 9 = .ok (.if_icmp .ge 90, 3) := dqT kk_162 (by decide +kernel)
theorem rdX12_wordAt_12 : decode cX12_wordAt 12 = .ok (.iconst 0, 1) := dq0 kk_3 (by decide +kernel)
theorem rdX12_wordAt_13 : decode cX12_wordAt 13 = .ok (.istore 5, 2) := dqU kk_54 (by decide +kernel)
theorem rdX12_wordAt_15 : decode cX12_wordAt 15 = .ok (.iconst 1, 1) := dq0 kk_4 (by decide +kernel)
theorem rdX12_wordAt_16 : decode cX12_wordAt 16 = .ok (.istore 6, 2) := dqU kk_54 (by decide +kernel)
theorem rdX12_wordAt_74 : decode cX12_wordAt 74 = .ok (.iinc 3 1, 3) := dqI kk_132 (by decide +kernel)
theorem rdX12_wordAt_77 : decode cX12_wordAt 77 = .ok (.iload 6, 2) := dqU kk_21 (by decide +kernel)
theorem rdX12_wordAt_79 : decode cX12_wordAt 79 = .ok (.ifCond .eq 14, 3) := dqT kk_153 (by decide +kernel)
theorem rdX12_wordAt_93 : decode cX12_wordAt 93 = .ok (.iinc 4 1, 3) := dqI kk_132 (by decide +kernel)
theorem rdX12_wordAt_96 : decode cX12_wordAt 96 = .ok (.goto (-91), 3) := dqT kk_167 (by decide +kernel)
theorem rdX12_wordAt_82 : decode cX12_wordAt 82 = .ok (.iload_n 1, 1) := dq0 kk_27 (by decide +kernel)
theorem rdX12_wordAt_83 : decode cX12_wordAt 83 = .ok (.iload 5, 2) := dqU kk_21 (by decide +kernel)
theorem rdX12_wordAt_85 : decode cX12_wordAt 85 = .ok (.iadd, 1) := dq0 kk_96 (by decide +kernel)
theorem rdX12_wordAt_86 : decode cX12_wordAt 86 = .ok (.iload_n 2, 1) := dq0 kk_28 (by decide +kernel)
theorem rdX12_wordAt_87 : decode cX12_wordAt 87 = .ok (.if_icmp .ne 6, 3) := dqT kk_160 (by decide +kernel)
theorem rdX12_wordAt_90 : decode cX12_wordAt 90 = .ok (.iload 4, 2) := dqU kk_21 (by decide +kernel)
theorem rdX12_wordAt_92 : decode cX12_wordAt 92 = .ok (.ireturn, 1) := dq0 kk_172 (by decide +kernel)
set_option maxRecDepth 4000 in
theorem lp_X12_wordAt1 {p : Program} {l : Launch} {e : Env} {s : State} {m : MethodId} {args : Array Value} {below : List Frame} {meth : Method} {c : Code} {D : va_G} {B : Nat} {cy : Nat → ClassId}  {M : Mem} {R : Room} {T : Nat → Nat} {tn s9 e9 : Nat} (F : CallFix p m c cX12_wordAt 7 s args TB RX12) (hr : meth.sig.returnType = (some .int)) (hlocks : meth.locks = false) (hR1 : 0 ≤ R.frames) (hR2 : 0 ≤ R.locals) (hT : okT T tn) (hTr : isTr M T tn) (hWd : isWd M) (hse : s9 ≤ e9) (he9 : e9 ≤ tn) (kk : ∀ (n : Nat) (k : Nat) (H : Heap) (locs : List Loc) (ls : Array Slot), (swI T s9 e9 k n s9 1) → (WB.drop k = flw 0 (WDS.drop n)) → (29 ≤ n) → Wd D B cy s s.heap M H locs → lv_has ls 7 [(4, .int (zI (n : Int))), (3, .int (zI (k : Int))), (0, .ref (B + 146)), (1, .int (zI (s9 : Int))), (2, .int (zI (e9 : Int)))] → W p l e R s m args below meth c H locs 0 0 (MQ below (va_Qi (fun r M1 => r = zI ((WDS.idxOf (pl T s9 e9) : Nat) : Int) ∧ M1 = M) (fun M2 t2 => Wp D B cy M2 t2) (fun q2 => B ≤ q2)) args s 0 0 (fun q2 => B ≤ q2)) (F0 m 99 ls [])) : ∀ (f : Nat) (n : Nat) (k : Nat), (n ≤ 29) → (swI T s9 e9 k n s9 1) → (WB.drop k = flw 0 (WDS.drop n)) → (29 ≤ n + f) → ∀ (H : Heap) (locs : List Loc) (ls : Array Slot), Wd D B cy s s.heap M H locs → lv_has ls 7 [(4, .int (zI (n : Int))), (3, .int (zI (k : Int))), (0, .ref (B + 146)), (1, .int (zI (s9 : Int))), (2, .int (zI (e9 : Int)))] → W p l e R s m args below meth c H locs 0 0 (MQ below (va_Qi (fun r M1 => r = zI ((WDS.idxOf (pl T s9 e9) : Nat) : Int) ∧ M1 = M) (fun M2 t2 => Wp D B cy M2 t2) (fun q2 => B ≤ q2)) args s 0 0 (fun q2 => B ≤ q2)) (F0 m 5 ls []) := by
  have hx := F.1
  have hb := F.2.1
  have hN := hT.1
  intro f
  induction f with
  | zero =>
    intro n k i0 i1 i2 hf H locs ls w hl
    refine lv_iload hx hb rdX12_wordAt_5 (lv_at hl 0 rfl) ?_
    refine lv_bipush (v := zI 29) hx hb rdX12_wordAt_7 (by decide) ?_
    refine z_icmp_ge (tgt := 99) hx hb (by omega) (by omega) rdX12_wordAt_9 (by decide) (fun c1 => ?_) (fun c1 => False.elim (by omega))
    exact kk n k _ _ ls i1 i2 (by omega) w (lv_sub hl [0, 1, 2, 3, 4] rfl)
  | succ f ih =>
    intro n k i0 i1 i2 hf H locs ls w hl
    refine lv_iload hx hb rdX12_wordAt_5 (lv_at hl 0 rfl) ?_
    refine lv_bipush (v := zI 29) hx hb rdX12_wordAt_7 (by decide) ?_
    refine z_icmp_ge (tgt := 99) hx hb (by omega) (by omega) rdX12_wordAt_9 (by decide) (fun c1 => ?_) (fun c1 => ?_)
    · exact kk n k _ _ ls i1 i2 (by omega) w (lv_sub hl [0, 1, 2, 3, 4] rfl)
    · refine lv_iconst (v := zI 0) hx hb rdX12_wordAt_12 rfl ?_
      refine lv_istore (lv' := [(5, .int (zI 0)), (4, .int (zI (n : Int))), (3, .int (zI (k : Int))), (0, .ref (B + 146)), (1, .int (zI (s9 : Int))), (2, .int (zI (e9 : Int)))]) hx hb rdX12_wordAt_13 hl (by decide) rfl (fun ls hl => ?_)
      refine lv_iconst (v := zI 1) hx hb rdX12_wordAt_15 rfl ?_
      refine lv_istore (lv' := [(6, .int (zI 1)), (5, .int (zI 0)), (4, .int (zI (n : Int))), (3, .int (zI (k : Int))), (0, .ref (B + 146)), (1, .int (zI (s9 : Int))), (2, .int (zI (e9 : Int)))]) hx hb rdX12_wordAt_16 hl (by decide) rfl (fun ls hl => ?_)
      refine lp_X12_wordAt2  F (by omega) (by omega) hT hTr hWd hse he9 (by omega) (fun k i z H locs ls x0 x1 x2 x3 x4 w hl => ?_) 147 k 0 1 (by omega) (wrem_0 i2 (by omega)) i1 (by omega) (by omega) _ _ ls w (lv_sub hl [0, 1, 2, 3, 4, 5, 6] rfl)
      have hk9 := wrem_k x1
      refine z_iinc (v := (((k + 1) : Nat) : Int)) (lv' := [(3, .int (zI (((k + 1) : Nat) : Int))), (6, .int (zI (z : Int))), (5, .int (zI (i : Int))), (4, .int (zI (n : Int))), (0, .ref (B + 146)), (1, .int (zI (s9 : Int))), (2, .int (zI (e9 : Int)))]) hx hb rdX12_wordAt_74 hl (k := 3) rfl (by omega) (by decide) rfl (fun ls hl => ?_)
      refine lv_iload hx hb rdX12_wordAt_77 (lv_at hl 1 rfl) ?_
      refine z_if_eq (tgt := 93) hx hb (by omega) rdX12_wordAt_79 (by decide) (fun c2 => ?_) (fun c2 => ?_)
      · refine z_iinc (v := (((n + 1) : Nat) : Int)) (lv' := [(4, .int (zI (((n + 1) : Nat) : Int))), (3, .int (zI (((k + 1) : Nat) : Int))), (6, .int (zI (z : Int))), (5, .int (zI (i : Int))), (0, .ref (B + 146)), (1, .int (zI (s9 : Int))), (2, .int (zI (e9 : Int)))]) hx hb rdX12_wordAt_93 hl (k := 3) rfl (by omega) (by decide) rfl (fun ls hl => ?_)
        refine lv_goto (tgt := 5) hx hb rdX12_wordAt_96 (by decide) ?_
        exact ih (n + 1) (k + 1) (by omega) (swI_z x2 (wrem_k x1) x3 (by omega)) (wrem_z x1 x3) (by omega) _ _ ls w (lv_sub hl [0, 1, 4, 5, 6] rfl)
      · refine lv_iload_n hx hb rdX12_wordAt_82 rfl (lv_at hl 5 rfl) ?_
        refine lv_iload hx hb rdX12_wordAt_83 (lv_at hl 2 rfl) ?_
        refine z_iadd (z := (((s9 + i) : Nat) : Int)) hx hb rdX12_wordAt_85 (by omega) ?_
        refine lv_iload_n hx hb rdX12_wordAt_86 rfl (lv_at hl 6 rfl) ?_
        refine z_icmp_ne (tgt := 93) hx hb (by omega) (by omega) rdX12_wordAt_87 (by decide) (fun c3 => ?_) (fun c3 => ?_)
        · refine z_iinc (v := (((n + 1) : Nat) : Int)) (lv' := [(4, .int (zI (((n + 1) : Nat) : Int))), (3, .int (zI (((k + 1) : Nat) : Int))), (6, .int (zI (z : Int))), (5, .int (zI (i : Int))), (0, .ref (B + 146)), (1, .int (zI (s9 : Int))), (2, .int (zI (e9 : Int)))]) hx hb rdX12_wordAt_93 hl (k := 3) rfl (by omega) (by decide) rfl (fun ls hl => ?_)
          refine lv_goto (tgt := 5) hx hb rdX12_wordAt_96 (by decide) ?_
          exact ih (n + 1) (k + 1) (by omega) (swI_z x2 (wrem_k x1) x3 (by omega)) (wrem_z x1 x3) (by omega) _ _ ls w (lv_sub hl [0, 1, 4, 5, 6] rfl)
        · refine lv_iload hx hb rdX12_wordAt_90 (lv_at hl 3 rfl) ?_
          exact e_i F w hr hlocks ⟨congrArg zI (congrArg (Nat.cast (R := Int)) (sw_s hse (swI_f x2 (wrem_k x1) x3 (by omega) (by omega)))), rfl⟩ rdX12_wordAt_92
theorem rdX12_wordAt_0 : decode cX12_wordAt 0 = .ok (.iconst 0, 1) := dq0 kk_3 (by decide +kernel)
theorem rdX12_wordAt_1 : decode cX12_wordAt 1 = .ok (.istore_n 3, 1) := dq0 kk_62 (by decide +kernel)
theorem rdX12_wordAt_2 : decode cX12_wordAt 2 = .ok (.iconst 0, 1) := dq0 kk_3 (by decide +kernel)
theorem rdX12_wordAt_3 : decode cX12_wordAt 3 = .ok (.istore 4, 2) := dqU kk_54 (by decide +kernel)
theorem rdX12_wordAt_99 : decode cX12_wordAt 99 = .ok (.bipush 29, 2) := dqS kk_16 (by decide +kernel)
theorem rdX12_wordAt_101 : decode cX12_wordAt 101 = .ok (.ireturn, 1) := dq0 kk_172 (by decide +kernel)
set_option maxRecDepth 4000 in
theorem t_wordAt {l : Launch} {D : va_G} {B : Nat} {cy : Nat → ClassId} {M : Mem} {T : Nat → Nat} {tn : Nat} (hT : okT T tn) (hTr : isTr M T tn) (hWd : isWd M) {s9 e9 : Nat} (hse : s9 ≤ e9) (he9 : e9 ≤ tn) : Ci l D B cy yX12_wordAt cX12_wordAt 7 (some .int) 0 0 [.ref (B + 146), .int (zI (s9 : Int)), .int (zI (e9 : Int))] M (fun r M1 => r = zI ((WDS.idxOf (pl T s9 e9) : Nat) : Int) ∧ M1 = M) := by
  refine s_any (by decide) (Nat.le_of_ble_eq_true rfl) ?_
  intro p e s m below meth c ls F hr hlocks w hl
  have F : CallFix p m c cX12_wordAt 7 s _ TB RX12 := F
  have hx := F.1
  have hb := F.2.1
  have hl : lv_has ls 7 [(0, .ref (B + 146)), (1, .int (zI (s9 : Int))), (2, .int (zI (e9 : Int)))] := hl
  have hN := hT.1
  refine lv_iconst (v := zI 0) hx hb rdX12_wordAt_0 rfl ?_
  refine lv_istore_n (lv' := [(3, .int (zI 0)), (0, .ref (B + 146)), (1, .int (zI (s9 : Int))), (2, .int (zI (e9 : Int)))]) hx hb rdX12_wordAt_1 rfl hl (by decide) rfl (fun ls hl => ?_)
  refine lv_iconst (v := zI 0) hx hb rdX12_wordAt_2 rfl ?_
  refine lv_istore (lv' := [(4, .int (zI 0)), (3, .int (zI 0)), (0, .ref (B + 146)), (1, .int (zI (s9 : Int))), (2, .int (zI (e9 : Int)))]) hx hb rdX12_wordAt_3 hl (by decide) rfl (fun ls hl => ?_)
  refine lp_X12_wordAt1  F hr hlocks (Nat.le_of_ble_eq_true rfl) (Nat.le_of_ble_eq_true rfl) hT hTr hWd hse he9 (fun n k H locs ls x0 x1 x2 w hl => ?_) 29 0 0 (by omega) rfl rfl (by omega) _ _ ls w (lv_sub hl [0, 1, 2, 3, 4] rfl)
  refine lv_bipush (v := zI 29) hx hb rdX12_wordAt_99 (by decide) ?_
  exact e_i F w hr hlocks ⟨congrArg zI (congrArg (Nat.cast (R := Int)) (sw_n hse (swI_e x0 x1 (by omega)))), rfl⟩ rdX12_wordAt_101
