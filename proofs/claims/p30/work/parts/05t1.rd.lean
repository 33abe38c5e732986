theorem rdJ0_coder_7d493_0 : decode cJ0_coder_7d493 0 = .ok (.getstatic 38, 3) := dqV kk_178 (by decide +kernel)
theorem rtb_0 : Cond.fieldLink "java/lang/String" 38 "java/lang/String" "COMPACT_STRINGS" "Z" ∈ TB := tbm (tc2 (List.mem_of_getElem? (i := 137) rfl)) rfl
theorem rdJ0_coder_7d493_3 : decode cJ0_coder_7d493 3 = .ok (.ifCond .eq 10, 3) := dqT kk_153 (by decide +kernel)
theorem rdJ0_coder_7d493_6 : decode cJ0_coder_7d493 6 = .ok (.aload_n 0, 1) := dq0 kk_42 (by decide +kernel)
theorem rdJ0_coder_7d493_7 : decode cJ0_coder_7d493 7 = .ok (.getfield 15, 3) := dqV kk_180 (by decide +kernel)
theorem rtb_1 : Cond.fieldLink "java/lang/String" 15 "java/lang/String" "coder" "B" ∈ TB := tbm (tc7 (List.mem_of_getElem? (i := 41) rfl)) rfl
theorem rdJ0_coder_7d493_10 : decode cJ0_coder_7d493 10 = .ok (.goto 4, 3) := dqT kk_167 (by decide +kernel)
theorem rdJ0_coder_7d493_14 : decode cJ0_coder_7d493 14 = .ok (.ireturn, 1) := dq0 kk_172 (by decide +kernel)
set_option maxRecDepth 4000 in
theorem t_coder {l : Launch} {D : va_G} {B : Nat} {cy : Nat → ClassId} {M : Mem} {i9 : Nat} (hi9 : i9 < NSL) : Ci l D B cy yJ0_coder_7d493 cJ0_coder_7d493 1 (some .byte) 0 0 [.ref (D.2 200 i9)] M (fun r M1 => r = zI 0 ∧ M1 = M) := by
  refine s_any (by decide) (Nat.le_of_ble_eq_true rfl) ?_
  intro p e s m below meth c ls F hr hlocks w hl
  have F : CallFix p m c cJ0_coder_7d493 1 s _ TB RJ0 := F
  have hx := F.1
  have hb := F.2.1
  have hl : lv_has ls 1 [(0, .ref (D.2 200 i9))] := hl
  have hsn := sl_len hi9
  refine g_comp F w rtb_0 rdJ0_coder_7d493_0 ?_
  refine z_if_eq (tgt := 13) hx hb (by omega) rdJ0_coder_7d493_3 (by decide) (fun c1 => False.elim (by omega)) (fun c1 => ?_)
  refine lv_aload_n hx hb rdJ0_coder_7d493_6 rfl (lv_at hl 0 rfl) ?_
  refine g_scod F w (i := i9) hi9 rtb_1 rdJ0_coder_7d493_7 ?_
  refine lv_goto (tgt := 14) hx hb rdJ0_coder_7d493_10 (by decide) ?_
  exact e_z F w hr hlocks (nrv_b (by omega)) ⟨rfl, rfl⟩ rdJ0_coder_7d493_14
theorem rdJ0_length_8abf5_0 : decode cJ0_length_8abf5 0 = .ok (.aload_n 0, 1) := dq0 kk_42 (by decide +kernel)
theorem rdJ0_length_8abf5_1 : decode cJ0_length_8abf5 1 = .ok (.getfield 9, 3) := dqV kk_180 (by decide +kernel)
theorem rtb_2 : Cond.fieldLink "java/lang/String" 9 "java/lang/String" "value" "[B" ∈ TB := tbm (tc7 (List.mem_of_getElem? (i := 42) rfl)) rfl
theorem rdJ0_length_8abf5_4 : decode cJ0_length_8abf5 4 = .ok (.arraylength, 1) := dq0 kk_190 (by decide +kernel)
theorem rdJ0_length_8abf5_5 : decode cJ0_length_8abf5 5 = .ok (.aload_n 0, 1) := dq0 kk_42 (by decide +kernel)
theorem rdJ0_length_8abf5_6 : decode cJ0_length_8abf5 6 = .ok (.invokevirtual 335, 3) := dqV kk_182 (by decide +kernel)
theorem rtk_J0_coder_7d493 : Cond.code yJ0_coder_7d493 cJ0_coder_7d493 1 (some .byte) ∈ TB := tbm (tc2 (List.mem_of_getElem? (i := 146) rfl)) rfl
theorem rgc_J0_coder_7d493 : GoodIn TB (cw yJ0_coder_7d493 cJ0_coder_7d493 1 (some .byte)) := goodIn_c2 rtk_J0_coder_7d493
theorem rtb_3 : Cond.methodLink "java/lang/String" 335 yJ0_coder_7d493 ∈ TB := tbm (tc2 (List.mem_of_getElem? (i := 143) rfl)) rfl
theorem rtb_4 : Cond.instanceMethod yJ0_coder_7d493 ∈ TB := tbm (tc2 (List.mem_of_getElem? (i := 144) rfl)) rfl
theorem rtb_5 : Cond.selects "java/lang/String" yJ0_coder_7d493 yJ0_coder_7d493 ∈ TB := tbm (tc2 (List.mem_of_getElem? (i := 145) rfl)) rfl
theorem rtb_6 : Cond.initialized "java/lang/String" ∈ TB := tbm (tc1 (List.mem_of_getElem? (i := 14) rfl)) rfl
theorem rgv_J0_335 : GoodIn TB (wsV RJ0 335 RJ0 yJ0_coder_7d493 (cw yJ0_coder_7d493 cJ0_coder_7d493 1 (some .byte))) := goodIn_4 rtb_3 rtb_4 rtb_5 rtb_6 rgc_J0_coder_7d493
theorem rhv_J0_coder_7d493 : yJ0_coder_7d493.cls = RJ0 ∧ yJ0_coder_7d493.cls ≠ "java/lang/invoke/MethodHandle" ∧ yJ0_coder_7d493.cls ≠ "java/lang/invoke/VarHandle" ∧ (parseMethodDescriptor yJ0_coder_7d493.desc).map (fun d => d.parameters.length) = some 0 := by decide +kernel
theorem rdJ0_length_8abf5_9 : decode cJ0_length_8abf5 9 = .ok (.ishr, 1) := dq0 kk_122 (by decide +kernel)
theorem rdJ0_length_8abf5_10 : decode cJ0_length_8abf5 10 = .ok (.ireturn, 1) := dq0 kk_172 (by decide +kernel)
set_option maxRecDepth 4000 in
theorem t_length {l : Launch} {D : va_G} {B : Nat} {cy : Nat → ClassId} {M : Mem} {i9 : Nat} (hi9 : i9 < NSL) : Ci l D B cy yJ0_length_8abf5 cJ0_length_8abf5 1 (some .int) 1 20 [.ref (D.2 200 i9)] M (fun r M1 => r = zI (slN i9) ∧ M1 = M) := by
  refine s_any (by decide) (Nat.le_of_ble_eq_true rfl) ?_
  intro p e s m below meth c ls F hr hlocks w hl
  have F : CallFix p m c cJ0_length_8abf5 1 s _ TB RJ0 := F
  have hx := F.1
  have hb := F.2.1
  have hl : lv_has ls 1 [(0, .ref (D.2 200 i9))] := hl
  have hsn := sl_len hi9
  refine lv_aload_n hx hb rdJ0_length_8abf5_0 rfl (lv_at hl 0 rfl) ?_
  refine g_sval F w (i := i9) hi9 rtb_2 rdJ0_length_8abf5_1 ?_
  have hsl0 := sl_len (i := i9) hi9
  refine g_slen F w (i := i9) hi9 rdJ0_length_8abf5_4 ?_
  refine lv_aload_n hx hb rdJ0_length_8abf5_5 rfl (lv_at hl 0 rfl) ?_
  refine k_Qi F w (As := []) (rest := [.int (zI (slN i9))]) (i := i9) hi9 (t_coder hi9) rgv_J0_335 rhv_J0_coder_7d493 ⟨(Nat.le_of_ble_eq_true rfl), (Nat.le_of_ble_eq_true rfl)⟩ hl.1 rfl (Nat.le_of_ble_eq_true rfl) ⟨Nat.zero_le _, Nat.zero_le _⟩ rdJ0_length_8abf5_6 (fun r M1 H locs hp w => ?_)
  obtain ⟨rfl, hMe⟩ := hp
  rw [hMe] at w
  refine lv_ishr hx hb rdJ0_length_8abf5_9 ?_
  refine r_val (v := (zI (slN i9))) (shr_0 (by omega) rfl) ?_
  exact e_i F w hr hlocks ⟨rfl, rfl⟩ rdJ0_length_8abf5_10
theorem rdJ0_isLatin1_aae02_0 : decode cJ0_isLatin1_aae02 0 = .ok (.getstatic 38, 3) := dqV kk_178 (by decide +kernel)
theorem rdJ0_isLatin1_aae02_3 : decode cJ0_isLatin1_aae02 3 = .ok (.ifCond .eq 14, 3) := dqT kk_153 (by decide +kernel)
theorem rdJ0_isLatin1_aae02_6 : decode cJ0_isLatin1_aae02 6 = .ok (.aload_n 0, 1) := dq0 kk_42 (by decide +kernel)
theorem rdJ0_isLatin1_aae02_7 : decode cJ0_isLatin1_aae02 7 = .ok (.getfield 15, 3) := dqV kk_180 (by decide +kernel)
theorem rdJ0_isLatin1_aae02_10 : decode cJ0_isLatin1_aae02 10 = .ok (.ifCond .ne 7, 3) := dqT kk_154 (by decide +kernel)
theorem rdJ0_isLatin1_aae02_13 : decode cJ0_isLatin1_aae02 13 = .ok (.iconst 1, 1) := dq0 kk_4 (by decide +kernel)
theorem rdJ0_isLatin1_aae02_14 : decode cJ0_isLatin1_aae02 14 = .ok (.goto 4, 3) := dqT kk_167 (by decide +kernel)
theorem rdJ0_isLatin1_aae02_18 : decode cJ0_isLatin1_aae02 18 = .ok (.ireturn, 1) := dq0 kk_172 (by decide +kernel)
set_option maxRecDepth 4000 in
theorem t_isLatin1 {l : Launch} {D : va_G} {B : Nat} {cy : Nat → ClassId} {M : Mem} {i9 : Nat} (hi9 : i9 < NSL) : Ci l D B cy yJ0_isLatin1_aae02 cJ0_isLatin1_aae02 1 (some .boolean) 0 0 [.ref (D.2 200 i9)] M (fun r M1 => r = zI 1 ∧ M1 = M) := by
  refine s_any (by decide) (Nat.le_of_ble_eq_true rfl) ?_
  intro p e s m below meth c ls F hr hlocks w hl
  have F : CallFix p m c cJ0_isLatin1_aae02 1 s _ TB RJ0 := F
  have hx := F.1
  have hb := F.2.1
  have hl : lv_has ls 1 [(0, .ref (D.2 200 i9))] := hl
  have hsn := sl_len hi9
  refine g_comp F w rtb_0 rdJ0_isLatin1_aae02_0 ?_
  refine z_if_eq (tgt := 17) hx hb (by omega) rdJ0_isLatin1_aae02_3 (by decide) (fun c1 => False.elim (by omega)) (fun c1 => ?_)
  refine lv_aload_n hx hb rdJ0_isLatin1_aae02_6 rfl (lv_at hl 0 rfl) ?_
  refine g_scod F w (i := i9) hi9 rtb_1 rdJ0_isLatin1_aae02_7 ?_
  refine z_if_ne (tgt := 17) hx hb (by omega) rdJ0_isLatin1_aae02_10 (by decide) (fun c2 => False.elim (by omega)) (fun c2 => ?_)
  refine lv_iconst (v := zI 1) hx hb rdJ0_isLatin1_aae02_13 rfl ?_
  refine lv_goto (tgt := 18) hx hb rdJ0_isLatin1_aae02_14 (by decide) ?_
  exact e_z F w hr hlocks (nar_z (by omega)) ⟨rfl, rfl⟩ rdJ0_isLatin1_aae02_18
theorem rdJ3_checkIndex_8e157_0 : decode cJ3_checkIndex_8e157 0 = .ok (.iload_n 0, 1) := dq0 kk_26 (by decide +kernel)
theorem rdJ3_checkIndex_8e157_1 : decode cJ3_checkIndex_8e157 1 = .ok (.ifCond .lt 8, 3) := dqT kk_155 (by decide +kernel)
theorem rdJ3_checkIndex_8e157_4 : decode cJ3_checkIndex_8e157 4 = .ok (.iload_n 0, 1) := dq0 kk_26 (by decide +kernel)
theorem rdJ3_checkIndex_8e157_5 : decode cJ3_checkIndex_8e157 5 = .ok (.iload_n 1, 1) := dq0 kk_27 (by decide +kernel)
theorem rdJ3_checkIndex_8e157_6 : decode cJ3_checkIndex_8e157 6 = .ok (.if_icmp .lt 10, 3) := dqT kk_161 (by decide +kernel)
theorem rdJ3_checkIndex_8e157_16 : decode cJ3_checkIndex_8e157 16 = .ok (.iload_n 0, 1) := dq0 kk_26 (by decide +kernel)
theorem rdJ3_checkIndex_8e157_17 : decode cJ3_checkIndex_8e157 17 = .ok (.ireturn, 1) := dq0 kk_172 (by decide +kernel)
set_option maxRecDepth 4000 in
theorem t_chkN {l : Launch} {D : va_G} {B : Nat} {cy : Nat → ClassId} {M : Mem} {y n9 : Int} (hy : 0 ≤ y ∧ y < n9) (hn9 : n9 ≤ 2147483647)  : Ci l D B cy yJ3_checkIndex_8e157 cJ3_checkIndex_8e157 3 (some .int) 0 0 [.int (zI y), .int (zI n9), .null] M (fun r M1 => r = zI y ∧ M1 = M) := by
  refine s_any (by decide) (Nat.le_of_ble_eq_true rfl) ?_
  intro p e s m below meth c ls F hr hlocks w hl
  have F : CallFix p m c cJ3_checkIndex_8e157 3 s _ TB RJ3 := F
  have hx := F.1
  have hb := F.2.1
  have hl : lv_has ls 3 [(0, .int (zI y)), (1, .int (zI n9)), (2, .null)] := hl
  refine lv_iload_n hx hb rdJ3_checkIndex_8e157_0 rfl (lv_at hl 0 rfl) ?_
  refine z_if_lt (tgt := 9) hx hb (by omega) rdJ3_checkIndex_8e157_1 (by decide) (fun c1 => False.elim (by omega)) (fun c1 => ?_)
  refine lv_iload_n hx hb rdJ3_checkIndex_8e157_4 rfl (lv_at hl 0 rfl) ?_
  refine lv_iload_n hx hb rdJ3_checkIndex_8e157_5 rfl (lv_at hl 1 rfl) ?_
  refine z_icmp_lt (tgt := 16) hx hb (by omega) (by omega) rdJ3_checkIndex_8e157_6 (by decide) (fun c2 => ?_) (fun c2 => False.elim (by omega))
  refine lv_iload_n hx hb rdJ3_checkIndex_8e157_16 rfl (lv_at hl 0 rfl) ?_
  exact e_i F w hr hlocks ⟨rfl, rfl⟩ rdJ3_checkIndex_8e157_17
set_option maxRecDepth 4000 in
theorem t_chkR {l : Launch} {D : va_G} {B : Nat} {cy : Nat → ClassId} {M : Mem} {y n9 : Int} (hy : 0 ≤ y ∧ y < n9) (hn9 : n9 ≤ 2147483647) {t9 : Nat} : Ci l D B cy yJ3_checkIndex_8e157 cJ3_checkIndex_8e157 3 (some .int) 0 0 [.int (zI y), .int (zI n9), .ref t9] M (fun r M1 => r = zI y ∧ M1 = M) := by
  refine s_any (by decide) (Nat.le_of_ble_eq_true rfl) ?_
  intro p e s m below meth c ls F hr hlocks w hl
  have F : CallFix p m c cJ3_checkIndex_8e157 3 s _ TB RJ3 := F
  have hx := F.1
  have hb := F.2.1
  have hl : lv_has ls 3 [(0, .int (zI y)), (1, .int (zI n9)), (2, .ref t9)] := hl
  refine lv_iload_n hx hb rdJ3_checkIndex_8e157_0 rfl (lv_at hl 0 rfl) ?_
  refine z_if_lt (tgt := 9) hx hb (by omega) rdJ3_checkIndex_8e157_1 (by decide) (fun c1 => False.elim (by omega)) (fun c1 => ?_)
  refine lv_iload_n hx hb rdJ3_checkIndex_8e157_4 rfl (lv_at hl 0 rfl) ?_
  refine lv_iload_n hx hb rdJ3_checkIndex_8e157_5 rfl (lv_at hl 1 rfl) ?_
  refine z_icmp_lt (tgt := 16) hx hb (by omega) (by omega) rdJ3_checkIndex_8e157_6 (by decide) (fun c2 => ?_) (fun c2 => False.elim (by omega))
  refine lv_iload_n hx hb rdJ3_checkIndex_8e157_16 rfl (lv_at hl 0 rfl) ?_
  exact e_i F w hr hlocks ⟨rfl, rfl⟩ rdJ3_checkIndex_8e157_17
theorem rdJ0_checkIndex_df160_0 : decode cJ0_checkIndex_df160 0 = .ok (.iload_n 0, 1) := dq0 kk_26 (by decide +kernel)
theorem rdJ0_checkIndex_df160_1 : decode cJ0_checkIndex_df160 1 = .ok (.iload_n 1, 1) := dq0 kk_27 (by decide +kernel)
theorem rdJ0_checkIndex_df160_2 : decode cJ0_checkIndex_df160 2 = .ok (.getstatic 1053, 3) := dqV kk_178 (by decide +kernel)
theorem rtb_7 : Cond.fieldLink "java/lang/String" 1053 "jdk/internal/util/Preconditions" "SIOOBE_FORMATTER" "Ljava/util/function/BiFunction;" ∈ TB := tbm (tc2 (List.mem_of_getElem? (i := 180) rfl)) rfl
theorem rdJ0_checkIndex_df160_5 : decode cJ0_checkIndex_df160 5 = .ok (.invokestatic 1059, 3) := dqV kk_184 (by decide +kernel)
theorem rtk_J3_checkIndex_8e157 : Cond.code yJ3_checkIndex_8e157 cJ3_checkIndex_8e157 3 (some .int) ∈ TB := tbm (tc3 (List.mem_of_getElem? (i := 86) rfl)) rfl
theorem rgc_J3_checkIndex_8e157 : GoodIn TB (cw yJ3_checkIndex_8e157 cJ3_checkIndex_8e157 3 (some .int)) := goodIn_c2 rtk_J3_checkIndex_8e157
theorem rtb_8 : Cond.methodLink "java/lang/String" 1059 yJ3_checkIndex_8e157 ∈ TB := tbm (tc3 (List.mem_of_getElem? (i := 84) rfl)) rfl
theorem rtb_9 : Cond.static yJ3_checkIndex_8e157 ∈ TB := tbm (tc3 (List.mem_of_getElem? (i := 85) rfl)) rfl
theorem rtb_10 : Cond.initialized "jdk/internal/util/Preconditions" ∈ TB := tbm (tc1 (List.mem_of_getElem? (i := 18) rfl)) rfl
theorem rgs_J0_1059 : GoodIn TB (va_wsS RJ0 1059 yJ3_checkIndex_8e157 (cw yJ3_checkIndex_8e157 cJ3_checkIndex_8e157 3 (some .int))) := goodIn_3 rtb_8 rtb_9 rtb_10 rgc_J3_checkIndex_8e157
theorem rhs_J3_checkIndex_8e157 : yJ3_checkIndex_8e157.cls ≠ "java/lang/invoke/MethodHandle" ∧ yJ3_checkIndex_8e157.cls ≠ "java/lang/invoke/VarHandle" ∧ (parseMethodDescriptor yJ3_checkIndex_8e157.desc).map (fun d => d.parameters.length) = some 3 := by decide +kernel
theorem rdJ0_checkIndex_df160_8 : decode cJ0_checkIndex_df160 8 = .ok (.pop, 1) := dq0 kk_87 (by decide +kernel)
theorem rdJ0_checkIndex_df160_9 : decode cJ0_checkIndex_df160 9 = .ok (.return_, 1) := dq0 kk_177 (by decide +kernel)
set_option maxRecDepth 4000 in
theorem t_check {l : Launch} {D : va_G} {B : Nat} {cy : Nat → ClassId} {M : Mem} {y n9 : Int} (hy : 0 ≤ y ∧ y < n9) (hn9 : n9 ≤ 2147483647) : Cv l D B cy yJ0_checkIndex_df160 cJ0_checkIndex_df160 2 1 22 [.int (zI y), .int (zI n9)] M (fun M1 => M1 = M) := by
  refine s_any (by decide) (Nat.le_of_ble_eq_true rfl) ?_
  intro p e s m below meth c ls F hr hlocks w hl
  have F : CallFix p m c cJ0_checkIndex_df160 2 s _ TB RJ0 := F
  have hx := F.1
  have hb := F.2.1
  have hl : lv_has ls 2 [(0, .int (zI y)), (1, .int (zI n9))] := hl
  refine lv_iload_n hx hb rdJ0_checkIndex_df160_0 rfl (lv_at hl 0 rfl) ?_
  refine lv_iload_n hx hb rdJ0_checkIndex_df160_1 rfl (lv_at hl 1 rfl) ?_
  refine g_sio F w rtb_7 rdJ0_checkIndex_df160_2 ?_ (fun t9 => ?_)
  · refine x_Si F w (As := [.int (zI y), .int (zI n9), .null]) (rest := []) (t_chkN (y := y) (n9 := n9) hy hn9) rgs_J0_1059 rhs_J3_checkIndex_8e157 ⟨(Nat.le_of_ble_eq_true rfl), (Nat.le_of_ble_eq_true rfl)⟩ hl.1 rfl (Nat.le_of_ble_eq_true rfl) ⟨Nat.zero_le _, Nat.zero_le _⟩ rdJ0_checkIndex_df160_5 (fun H locs w => ?_)
    refine lv_pop hx hb rdJ0_checkIndex_df160_8 rfl ?_
    exact e_v F w hr hlocks rfl rdJ0_checkIndex_df160_9
  · refine x_Si F w (As := [.int (zI y), .int (zI n9), .ref t9]) (rest := []) (t_chkR (y := y) (n9 := n9) hy hn9) rgs_J0_1059 rhs_J3_checkIndex_8e157 ⟨(Nat.le_of_ble_eq_true rfl), (Nat.le_of_ble_eq_true rfl)⟩ hl.1 rfl (Nat.le_of_ble_eq_true rfl) ⟨Nat.zero_le _, Nat.zero_le _⟩ rdJ0_checkIndex_df160_5 (fun H locs w => ?_)
    refine lv_pop hx hb rdJ0_checkIndex_df160_8 rfl ?_
    exact e_v F w hr hlocks rfl rdJ0_checkIndex_df160_9
theorem rdJ1_charAt_3b067_0 : decode cJ1_charAt_3b067 0 = .ok (.iload_n 1, 1) := dq0 kk_27 (by decide +kernel)
theorem rdJ1_charAt_3b067_1 : decode cJ1_charAt_3b067 1 = .ok (.aload_n 0, 1) := dq0 kk_42 (by decide +kernel)
theorem rdJ1_charAt_3b067_2 : decode cJ1_charAt_3b067 2 = .ok (.arraylength, 1) := dq0 kk_190 (by decide +kernel)
theorem rdJ1_charAt_3b067_3 : decode cJ1_charAt_3b067 3 = .ok (.invokestatic 9, 3) := dqV kk_184 (by decide +kernel)
theorem rtk_J0_checkIndex_df160 : Cond.code yJ0_checkIndex_df160 cJ0_checkIndex_df160 2 none ∈ TB := tbm (tc3 (List.mem_of_getElem? (i := 83) rfl)) rfl
theorem rgc_J0_checkIndex_df160 : GoodIn TB (cw yJ0_checkIndex_df160 cJ0_checkIndex_df160 2 none) := goodIn_c2 rtk_J0_checkIndex_df160
theorem rtb_11 : Cond.methodLink "java/lang/StringLatin1" 9 yJ0_checkIndex_df160 ∈ TB := tbm (tc3 (List.mem_of_getElem? (i := 81) rfl)) rfl
theorem rtb_12 : Cond.static yJ0_checkIndex_df160 ∈ TB := tbm (tc3 (List.mem_of_getElem? (i := 82) rfl)) rfl
theorem rgs_J1_9 : GoodIn TB (va_wsS RJ1 9 yJ0_checkIndex_df160 (cw yJ0_checkIndex_df160 cJ0_checkIndex_df160 2 none)) := goodIn_3 rtb_11 rtb_12 rtb_6 rgc_J0_checkIndex_df160
theorem rhs_J0_checkIndex_df160 : yJ0_checkIndex_df160.cls ≠ "java/lang/invoke/MethodHandle" ∧ yJ0_checkIndex_df160.cls ≠ "java/lang/invoke/VarHandle" ∧ (parseMethodDescriptor yJ0_checkIndex_df160.desc).map (fun d => d.parameters.length) = some 2 := by decide +kernel
theorem rdJ1_charAt_3b067_6 : decode cJ1_charAt_3b067 6 = .ok (.aload_n 0, 1) := dq0 kk_42 (by decide +kernel)
theorem rdJ1_charAt_3b067_7 : decode cJ1_charAt_3b067 7 = .ok (.iload_n 1, 1) := dq0 kk_27 (by decide +kernel)
theorem rdJ1_charAt_3b067_8 : decode cJ1_charAt_3b067 8 = .ok (.baload, 1) := dq0 kk_51 (by decide +kernel)
theorem rdJ1_charAt_3b067_9 : decode cJ1_charAt_3b067 9 = .ok (.sipush 255, 3) := dqT kk_17 (by decide +kernel)
theorem rdJ1_charAt_3b067_12 : decode cJ1_charAt_3b067 12 = .ok (.iand, 1) := dq0 kk_126 (by decide +kernel)
theorem rdJ1_charAt_3b067_13 : decode cJ1_charAt_3b067 13 = .ok (.i2c, 1) := dq0 kk_146 (by decide +kernel)
theorem rdJ1_charAt_3b067_14 : decode cJ1_charAt_3b067 14 = .ok (.ireturn, 1) := dq0 kk_172 (by decide +kernel)
set_option maxRecDepth 4000 in
theorem t_charL {l : Launch} {D : va_G} {B : Nat} {cy : Nat → ClassId} {M : Mem} {i9 : Nat} (hi9 : i9 < NSL) {j : Nat} (hj : (j : Int) < slN i9) : Ci l D B cy yJ1_charAt_3b067 cJ1_charAt_3b067 2 (some .char) 2 43 [.ref (D.2 201 i9), .int (zI (j : Int))] M (fun r M1 => r = zI (slx i9 j) ∧ M1 = M) := by
  refine s_any (by decide) (Nat.le_of_ble_eq_true rfl) ?_
  intro p e s m below meth c ls F hr hlocks w hl
  have F : CallFix p m c cJ1_charAt_3b067 2 s _ TB RJ1 := F
  have hx := F.1
  have hb := F.2.1
  have hl : lv_has ls 2 [(0, .ref (D.2 201 i9)), (1, .int (zI (j : Int)))] := hl
  have hsn := sl_len hi9
  refine lv_iload_n hx hb rdJ1_charAt_3b067_0 rfl (lv_at hl 1 rfl) ?_
  refine lv_aload_n hx hb rdJ1_charAt_3b067_1 rfl (lv_at hl 0 rfl) ?_
  have hsl0 := sl_len (i := i9) hi9
  refine g_slen F w (i := i9) hi9 rdJ1_charAt_3b067_2 ?_
  refine x_Sv F w (As := [.int (zI (j : Int)), .int (zI (slN i9))]) (rest := []) (t_check (y := (j : Int)) (n9 := (slN i9)) (by omega) (by omega)) rgs_J1_9 rhs_J0_checkIndex_df160 ⟨(Nat.le_of_ble_eq_true rfl), (Nat.le_of_ble_eq_true rfl)⟩ hl.1 rfl (Nat.le_of_ble_eq_true rfl) ⟨Nat.zero_le _, Nat.zero_le _⟩ rdJ1_charAt_3b067_3 (fun H locs w => ?_)
  refine lv_aload_n hx hb rdJ1_charAt_3b067_6 rfl (lv_at hl 0 rfl) ?_
  refine lv_iload_n hx hb rdJ1_charAt_3b067_7 rfl (lv_at hl 1 rfl) ?_
  have hsx1 := slx_b (i := i9) hi9 (j := j) (by omega)
  refine g_sbyt F w (i := i9) hi9 (j := j) (ix_n (by omega)) (by omega) (slx_e (i := i9) hi9 (j := j) (by omega)) rdJ1_charAt_3b067_8 ?_
  refine lv_sipush (v := zI 255) hx hb rdJ1_charAt_3b067_9 (by decide) ?_
  refine lv_iand hx hb rdJ1_charAt_3b067_12 ?_
  refine r_val (v := (zI (slx i9 j))) (and_255 (by omega)) ?_
  refine lv_i2c (v := (zI (slx i9 j))) hx hb rdJ1_charAt_3b067_13 (i2c_z (by omega)) ?_
  exact e_z F w hr hlocks (nrv_c (by omega)) ⟨rfl, rfl⟩ rdJ1_charAt_3b067_14
theorem rdJ0_charAt_5068e_0 : decode cJ0_charAt_5068e 0 = .ok (.aload_n 0, 1) := dq0 kk_42 (by decide +kernel)
theorem rdJ0_charAt_5068e_1 : decode cJ0_charAt_5068e 1 = .ok (.invokevirtual 492, 3) := dqV kk_182 (by decide +kernel)
theorem rtk_J0_isLatin1_aae02 : Cond.code yJ0_isLatin1_aae02 cJ0_isLatin1_aae02 1 (some .boolean) ∈ TB := tbm (tc2 (List.mem_of_getElem? (i := 136) rfl)) rfl
theorem rgc_J0_isLatin1_aae02 : GoodIn TB (cw yJ0_isLatin1_aae02 cJ0_isLatin1_aae02 1 (some .boolean)) := goodIn_c2 rtk_J0_isLatin1_aae02
theorem rtb_13 : Cond.methodLink "java/lang/String" 492 yJ0_isLatin1_aae02 ∈ TB := tbm (tc2 (List.mem_of_getElem? (i := 133) rfl)) rfl
theorem rtb_14 : Cond.instanceMethod yJ0_isLatin1_aae02 ∈ TB := tbm (tc2 (List.mem_of_getElem? (i := 134) rfl)) rfl
theorem rtb_15 : Cond.selects "java/lang/String" yJ0_isLatin1_aae02 yJ0_isLatin1_aae02 ∈ TB := tbm (tc2 (List.mem_of_getElem? (i := 135) rfl)) rfl
theorem rgv_J0_492 : GoodIn TB (wsV RJ0 492 RJ0 yJ0_isLatin1_aae02 (cw yJ0_isLatin1_aae02 cJ0_isLatin1_aae02 1 (some .boolean))) := goodIn_4 rtb_13 rtb_14 rtb_15 rtb_6 rgc_J0_isLatin1_aae02
theorem rhv_J0_isLatin1_aae02 : yJ0_isLatin1_aae02.cls = RJ0 ∧ yJ0_isLatin1_aae02.cls ≠ "java/lang/invoke/MethodHandle" ∧ yJ0_isLatin1_aae02.cls ≠ "java/lang/invoke/VarHandle" ∧ (parseMethodDescriptor yJ0_isLatin1_aae02.desc).map (fun d => d.parameters.length) = some 0 := by decide +kernel
theorem rdJ0_charAt_5068e_4 : decode cJ0_charAt_5068e 4 = .ok (.ifCond .eq 12, 3) := dqT kk_153 (by decide +kernel)
theorem rdJ0_charAt_5068e_7 : decode cJ0_charAt_5068e 7 = .ok (.aload_n 0, 1) := dq0 kk_42 (by decide +kernel)
theorem rdJ0_charAt_5068e_8 : decode cJ0_charAt_5068e 8 = .ok (.getfield 9, 3) := dqV kk_180 (by decide +kernel)
theorem rdJ0_charAt_5068e_11 : decode cJ0_charAt_5068e 11 = .ok (.iload_n 1, 1) := dq0 kk_27 (by decide +kernel)
theorem rdJ0_charAt_5068e_12 : decode cJ0_charAt_5068e 12 = .ok (.invokestatic 495, 3) := dqV kk_184 (by decide +kernel)
theorem rtk_J1_charAt_3b067 : Cond.code yJ1_charAt_3b067 cJ1_charAt_3b067 2 (some .char) ∈ TB := tbm (tc3 (List.mem_of_getElem? (i := 80) rfl)) rfl
theorem rgc_J1_charAt_3b067 : GoodIn TB (cw yJ1_charAt_3b067 cJ1_charAt_3b067 2 (some .char)) := goodIn_c2 rtk_J1_charAt_3b067
theorem rtb_16 : Cond.methodLink "java/lang/String" 495 yJ1_charAt_3b067 ∈ TB := tbm (tc3 (List.mem_of_getElem? (i := 78) rfl)) rfl
theorem rtb_17 : Cond.static yJ1_charAt_3b067 ∈ TB := tbm (tc3 (List.mem_of_getElem? (i := 79) rfl)) rfl
theorem rtb_18 : Cond.initialized "java/lang/StringLatin1" ∈ TB := tbm (tc1 (List.mem_of_getElem? (i := 15) rfl)) rfl
theorem rgs_J0_495 : GoodIn TB (va_wsS RJ0 495 yJ1_charAt_3b067 (cw yJ1_charAt_3b067 cJ1_charAt_3b067 2 (some .char))) := goodIn_3 rtb_16 rtb_17 rtb_18 rgc_J1_charAt_3b067
theorem rhs_J1_charAt_3b067 : yJ1_charAt_3b067.cls ≠ "java/lang/invoke/MethodHandle" ∧ yJ1_charAt_3b067.cls ≠ "java/lang/invoke/VarHandle" ∧ (parseMethodDescriptor yJ1_charAt_3b067.desc).map (fun d => d.parameters.length) = some 2 := by decide +kernel
theorem rdJ0_charAt_5068e_15 : decode cJ0_charAt_5068e 15 = .ok (.ireturn, 1) := dq0 kk_172 (by decide +kernel)
set_option maxRecDepth 4000 in
theorem t_charAt {l : Launch} {D : va_G} {B : Nat} {cy : Nat → ClassId} {M : Mem} {i9 : Nat} (hi9 : i9 < NSL) {j : Nat} (hj : (j : Int) < slN i9) : Ci l D B cy yJ0_charAt_5068e cJ0_charAt_5068e 2 (some .char) 3 64 [.ref (D.2 200 i9), .int (zI (j : Int))] M (fun r M1 => r = zI (slx i9 j) ∧ M1 = M) := by
  refine s_any (by decide) (Nat.le_of_ble_eq_true rfl) ?_
  intro p e s m below meth c ls F hr hlocks w hl
  have F : CallFix p m c cJ0_charAt_5068e 2 s _ TB RJ0 := F
  have hx := F.1
  have hb := F.2.1
  have hl : lv_has ls 2 [(0, .ref (D.2 200 i9)), (1, .int (zI (j : Int)))] := hl
  have hsn := sl_len hi9
  refine lv_aload_n hx hb rdJ0_charAt_5068e_0 rfl (lv_at hl 0 rfl) ?_
  refine k_Qi F w (As := []) (rest := []) (i := i9) hi9 (t_isLatin1 hi9) rgv_J0_492 rhv_J0_isLatin1_aae02 ⟨(Nat.le_of_ble_eq_true rfl), (Nat.le_of_ble_eq_true rfl)⟩ hl.1 rfl (Nat.le_of_ble_eq_true rfl) ⟨Nat.zero_le _, Nat.zero_le _⟩ rdJ0_charAt_5068e_1 (fun r M1 H locs hp w => ?_)
  obtain ⟨rfl, hMe⟩ := hp
  rw [hMe] at w
  refine z_if_eq (tgt := 16) hx hb (by omega) rdJ0_charAt_5068e_4 (by decide) (fun c1 => False.elim (by omega)) (fun c1 => ?_)
  refine lv_aload_n hx hb rdJ0_charAt_5068e_7 rfl (lv_at hl 0 rfl) ?_
  refine g_sval F w (i := i9) hi9 rtb_2 rdJ0_charAt_5068e_8 ?_
  refine lv_iload_n hx hb rdJ0_charAt_5068e_11 rfl (lv_at hl 1 rfl) ?_
  refine x_Si F w (As := [.ref (D.2 201 i9), .int (zI (j : Int))]) (rest := []) (t_charL hi9 hj) rgs_J0_495 rhs_J1_charAt_3b067 ⟨(Nat.le_of_ble_eq_true rfl), (Nat.le_of_ble_eq_true rfl)⟩ hl.1 rfl (Nat.le_of_ble_eq_true rfl) ⟨Nat.zero_le _, Nat.zero_le _⟩ rdJ0_charAt_5068e_12 (fun H locs w => ?_)
  have hsx := slx_b hi9 hj
  exact e_z F w hr hlocks (nrv_c (by omega)) ⟨rfl, rfl⟩ rdJ0_charAt_5068e_15
