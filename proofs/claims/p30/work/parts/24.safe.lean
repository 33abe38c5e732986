theorem dJ0_isLatin1_aae02_0 : decode cJ0_isLatin1_aae02 0 = .ok (.getstatic 38, 3) := rdJ0_isLatin1_aae02_0
theorem tb_396 : Cond.fieldLink "java/lang/String" 38 "java/lang/String" "COMPACT_STRINGS" "Z" ∈ TB := rtb_0
theorem dJ0_isLatin1_aae02_3 : decode cJ0_isLatin1_aae02 3 = .ok (.ifCond .eq 14, 3) := rdJ0_isLatin1_aae02_3
theorem dJ0_isLatin1_aae02_6 : decode cJ0_isLatin1_aae02 6 = .ok (.aload_n 0, 1) := rdJ0_isLatin1_aae02_6
theorem dJ0_isLatin1_aae02_7 : decode cJ0_isLatin1_aae02 7 = .ok (.getfield 15, 3) := rdJ0_isLatin1_aae02_7
theorem tb_397 : Cond.fieldLink "java/lang/String" 15 "java/lang/String" "coder" "B" ∈ TB := rtb_1
theorem dJ0_isLatin1_aae02_10 : decode cJ0_isLatin1_aae02 10 = .ok (.ifCond .ne 7, 3) := rdJ0_isLatin1_aae02_10
theorem dJ0_isLatin1_aae02_13 : decode cJ0_isLatin1_aae02 13 = .ok (.iconst 1, 1) := rdJ0_isLatin1_aae02_13
theorem dJ0_isLatin1_aae02_14 : decode cJ0_isLatin1_aae02 14 = .ok (.goto 4, 3) := rdJ0_isLatin1_aae02_14
theorem dJ0_isLatin1_aae02_18 : decode cJ0_isLatin1_aae02 18 = .ok (.ireturn, 1) := rdJ0_isLatin1_aae02_18
set_option maxRecDepth 4000 in
theorem q_J0_isLatin1_aae02 {l : Launch} {D : va_G} {B : Nat} {cy : Nat → ClassId} {M : Mem} {i9 : Nat} (hi9 : i9 < NSL) (hI : Inv M) : Ci l D B cy yJ0_isLatin1_aae02 cJ0_isLatin1_aae02 1 (some .boolean) 0 0 [.ref (D.2 200 i9)] M (fun r M1 => ∃ z : Int, r = zI z ∧ (1 ≤ z ∧ z ≤ 1) ∧ M1 = M) := by
  refine s_anyQ (by decide) (Nat.le_of_ble_eq_true rfl) ?_
  intro p e s m args below meth c ls Q F hr hlocks hQ w hl
  have F : CallFix p m c cJ0_isLatin1_aae02 1 s args TB RJ0 := F
  have hx := F.1
  have hb := F.2.1
  have hl : lv_has ls 1 [(0, .ref (D.2 200 i9))] := hl
  have hsn_i9 := sl_len hi9
  refine g_comp F w tb_396 dJ0_isLatin1_aae02_0 ?_
  refine z_if_eq (tgt := 17) hx hb (by omega) dJ0_isLatin1_aae02_3 (by decide) (fun c1 => False.elim (by omega)) (fun c1 => ?_)
  refine lv_aload_n hx hb dJ0_isLatin1_aae02_6 rfl (lv_at hl 0 rfl) ?_
  refine g_scod F w (i := i9) hi9 tb_397 dJ0_isLatin1_aae02_7 ?_
  refine z_if_ne (tgt := 17) hx hb (by omega) dJ0_isLatin1_aae02_10 (by decide) (fun c2 => False.elim (by omega)) (fun c2 => ?_)
  refine lv_iconst (v := zI 1) hx hb dJ0_isLatin1_aae02_13 rfl ?_
  refine lv_goto (tgt := 18) hx hb dJ0_isLatin1_aae02_14 (by decide) ?_
  rw [hQ]
  exact e_z F w hr hlocks (nar_z (by omega)) ⟨_, rfl, (by omega), rfl⟩ dJ0_isLatin1_aae02_18
theorem dJ0_coder_7d493_0 : decode cJ0_coder_7d493 0 = .ok (.getstatic 38, 3) := rdJ0_coder_7d493_0
theorem dJ0_coder_7d493_3 : decode cJ0_coder_7d493 3 = .ok (.ifCond .eq 10, 3) := rdJ0_coder_7d493_3
theorem dJ0_coder_7d493_6 : decode cJ0_coder_7d493 6 = .ok (.aload_n 0, 1) := rdJ0_coder_7d493_6
theorem dJ0_coder_7d493_7 : decode cJ0_coder_7d493 7 = .ok (.getfield 15, 3) := rdJ0_coder_7d493_7
theorem dJ0_coder_7d493_10 : decode cJ0_coder_7d493 10 = .ok (.goto 4, 3) := rdJ0_coder_7d493_10
theorem dJ0_coder_7d493_14 : decode cJ0_coder_7d493 14 = .ok (.ireturn, 1) := rdJ0_coder_7d493_14
set_option maxRecDepth 4000 in
theorem q_J0_coder_7d493 {l : Launch} {D : va_G} {B : Nat} {cy : Nat → ClassId} {M : Mem} {i9 : Nat} (hi9 : i9 < NSL) (hI : Inv M) : Ci l D B cy yJ0_coder_7d493 cJ0_coder_7d493 1 (some .byte) 0 0 [.ref (D.2 200 i9)] M (fun r M1 => ∃ z : Int, r = zI z ∧ (0 ≤ z ∧ z ≤ 0) ∧ M1 = M) := by
  refine s_anyQ (by decide) (Nat.le_of_ble_eq_true rfl) ?_
  intro p e s m args below meth c ls Q F hr hlocks hQ w hl
  have F : CallFix p m c cJ0_coder_7d493 1 s args TB RJ0 := F
  have hx := F.1
  have hb := F.2.1
  have hl : lv_has ls 1 [(0, .ref (D.2 200 i9))] := hl
  have hsn_i9 := sl_len hi9
  refine g_comp F w tb_396 dJ0_coder_7d493_0 ?_
  refine z_if_eq (tgt := 13) hx hb (by omega) dJ0_coder_7d493_3 (by decide) (fun c1 => False.elim (by omega)) (fun c1 => ?_)
  refine lv_aload_n hx hb dJ0_coder_7d493_6 rfl (lv_at hl 0 rfl) ?_
  refine g_scod F w (i := i9) hi9 tb_397 dJ0_coder_7d493_7 ?_
  refine lv_goto (tgt := 14) hx hb dJ0_coder_7d493_10 (by decide) ?_
  rw [hQ]
  exact e_z F w hr hlocks (nrv_b (by omega)) ⟨_, rfl, (by omega), rfl⟩ dJ0_coder_7d493_14
theorem dJ0_length_8abf5_0 : decode cJ0_length_8abf5 0 = .ok (.aload_n 0, 1) := rdJ0_length_8abf5_0
theorem dJ0_length_8abf5_1 : decode cJ0_length_8abf5 1 = .ok (.getfield 9, 3) := rdJ0_length_8abf5_1
theorem tb_398 : Cond.fieldLink "java/lang/String" 9 "java/lang/String" "value" "[B" ∈ TB := rtb_2
theorem dJ0_length_8abf5_4 : decode cJ0_length_8abf5 4 = .ok (.arraylength, 1) := rdJ0_length_8abf5_4
theorem dJ0_length_8abf5_5 : decode cJ0_length_8abf5 5 = .ok (.aload_n 0, 1) := rdJ0_length_8abf5_5
theorem dJ0_length_8abf5_6 : decode cJ0_length_8abf5 6 = .ok (.invokevirtual 335, 3) := rdJ0_length_8abf5_6
theorem tk_J0_coder_7d493 : Cond.code yJ0_coder_7d493 cJ0_coder_7d493 1 (some .byte) ∈ TB := rtk_J0_coder_7d493
theorem gc_J0_coder_7d493 : GoodIn TB (cw yJ0_coder_7d493 cJ0_coder_7d493 1 (some .byte)) := goodIn_c2 tk_J0_coder_7d493
theorem tb_399 : Cond.methodLink "java/lang/String" 335 yJ0_coder_7d493 ∈ TB := rtb_3
theorem tb_400 : Cond.instanceMethod yJ0_coder_7d493 ∈ TB := rtb_4
theorem tb_401 : Cond.selects "java/lang/String" yJ0_coder_7d493 yJ0_coder_7d493 ∈ TB := rtb_5
theorem tb_402 : Cond.initialized "java/lang/String" ∈ TB := rtb_6
theorem gv_J0_335 : GoodIn TB (wsV RJ0 335 RJ0 yJ0_coder_7d493 (cw yJ0_coder_7d493 cJ0_coder_7d493 1 (some .byte))) := goodIn_4 tb_399 tb_400 tb_401 tb_402 gc_J0_coder_7d493
theorem hv_J0_coder_7d493 : yJ0_coder_7d493.cls = RJ0 ∧ yJ0_coder_7d493.cls ≠ "java/lang/invoke/MethodHandle" ∧ yJ0_coder_7d493.cls ≠ "java/lang/invoke/VarHandle" ∧ (parseMethodDescriptor yJ0_coder_7d493.desc).map (fun d => d.parameters.length) = some 0 := rhv_J0_coder_7d493
theorem dJ0_length_8abf5_9 : decode cJ0_length_8abf5 9 = .ok (.ishr, 1) := rdJ0_length_8abf5_9
theorem dJ0_length_8abf5_10 : decode cJ0_length_8abf5 10 = .ok (.ireturn, 1) := rdJ0_length_8abf5_10
set_option maxRecDepth 4000 in
theorem q_J0_length_8abf5 {l : Launch} {D : va_G} {B : Nat} {cy : Nat → ClassId} {M : Mem} {i9 : Nat} (hi9 : i9 < NSL) (hI : Inv M) : Ci l D B cy yJ0_length_8abf5 cJ0_length_8abf5 1 (some .int) 1 20 [.ref (D.2 200 i9)] M (fun r M1 => ∃ z : Int, r = zI z ∧ (2 ≤ z ∧ z ≤ 52) ∧ (z = slN i9) ∧ M1 = M) := by
  refine s_anyQ (by decide) (Nat.le_of_ble_eq_true rfl) ?_
  intro p e s m args below meth c ls Q F hr hlocks hQ w hl
  have F : CallFix p m c cJ0_length_8abf5 1 s args TB RJ0 := F
  have hx := F.1
  have hb := F.2.1
  have hl : lv_has ls 1 [(0, .ref (D.2 200 i9))] := hl
  have hsn_i9 := sl_len hi9
  refine lv_aload_n hx hb dJ0_length_8abf5_0 rfl (lv_at hl 0 rfl) ?_
  refine g_sval F w (i := i9) hi9 tb_398 dJ0_length_8abf5_1 ?_
  have hsl4 := sl_len (i := i9) hi9
  refine g_slen F w (i := i9) hi9 dJ0_length_8abf5_4 ?_
  refine lv_aload_n hx hb dJ0_length_8abf5_5 rfl (lv_at hl 0 rfl) ?_
  refine k_Qi F w (As := []) (rest := [.int (zI (slN i9))]) (i := i9) hi9 (q_J0_coder_7d493 (i9 := i9) hi9  hI) gv_J0_335 hv_J0_coder_7d493 ⟨(Nat.le_of_ble_eq_true rfl), (Nat.le_of_ble_eq_true rfl)⟩ hl.1 rfl (Nat.le_of_ble_eq_true rfl) ⟨Nat.zero_le _, Nat.zero_le _⟩ dJ0_length_8abf5_6 (fun r1 N2 H locs hp w => ?_)
  obtain ⟨z3, rfl, bz3, hMN2⟩ := hp
  rw [hMN2] at w
  refine lv_ishr hx hb dJ0_length_8abf5_9 ?_
  refine r_val (shr_0 (x := (slN i9)) (y := z3) (by omega) (by omega)) ?_
  rw [hQ]
  exact e_i F w hr hlocks ⟨_, rfl, (by omega), (by omega), rfl⟩ dJ0_length_8abf5_10
theorem dJ3_checkIndex_8e157_0 : decode cJ3_checkIndex_8e157 0 = .ok (.iload_n 0, 1) := rdJ3_checkIndex_8e157_0
theorem dJ3_checkIndex_8e157_1 : decode cJ3_checkIndex_8e157 1 = .ok (.ifCond .lt 8, 3) := rdJ3_checkIndex_8e157_1
theorem dJ3_checkIndex_8e157_4 : decode cJ3_checkIndex_8e157 4 = .ok (.iload_n 0, 1) := rdJ3_checkIndex_8e157_4
theorem dJ3_checkIndex_8e157_5 : decode cJ3_checkIndex_8e157 5 = .ok (.iload_n 1, 1) := rdJ3_checkIndex_8e157_5
theorem dJ3_checkIndex_8e157_6 : decode cJ3_checkIndex_8e157 6 = .ok (.if_icmp .lt 10, 3) := rdJ3_checkIndex_8e157_6
theorem dJ3_checkIndex_8e157_16 : decode cJ3_checkIndex_8e157 16 = .ok (.iload_n 0, 1) := rdJ3_checkIndex_8e157_16
theorem dJ3_checkIndex_8e157_17 : decode cJ3_checkIndex_8e157 17 = .ok (.ireturn, 1) := rdJ3_checkIndex_8e157_17
set_option maxRecDepth 4000 in
theorem q_chkN {l : Launch} {D : va_G} {B : Nat} {cy : Nat → ClassId} {M : Mem} {x : Int} (hx : (-2147483648) ≤ x ∧ x ≤ 2147483647) {x1 : Int} (hx1 : (-2147483648) ≤ x1 ∧ x1 ≤ 2147483647)  (hpre0 : 0 ≤ x ∧ x < x1) (hI : Inv M) : Ci l D B cy yJ3_checkIndex_8e157 cJ3_checkIndex_8e157 3 (some .int) 0 0 [.int (zI x), .int (zI x1), .null] M (fun r M1 => ∃ z : Int, r = zI z ∧ (0 ≤ z ∧ z ≤ 2147483646) ∧ M1 = M) := by
  refine s_anyQ (by decide) (Nat.le_of_ble_eq_true rfl) ?_
  intro p e s m args below meth c ls Q F hr hlocks hQ w hl
  have F : CallFix p m c cJ3_checkIndex_8e157 3 s args TB RJ3 := F
  have hx := F.1
  have hb := F.2.1
  have hl : lv_has ls 3 [(0, .int (zI x)), (1, .int (zI x1)), (2, .null)] := hl
  refine lv_iload_n hx hb dJ3_checkIndex_8e157_0 rfl (lv_at hl 0 rfl) ?_
  refine z_if_lt (tgt := 9) hx hb (by omega) dJ3_checkIndex_8e157_1 (by decide) (fun c1 => False.elim (by omega)) (fun c1 => ?_)
  refine lv_iload_n hx hb dJ3_checkIndex_8e157_4 rfl (lv_at hl 0 rfl) ?_
  refine lv_iload_n hx hb dJ3_checkIndex_8e157_5 rfl (lv_at hl 1 rfl) ?_
  refine z_icmp_lt (tgt := 16) hx hb (by omega) (by omega) dJ3_checkIndex_8e157_6 (by decide) (fun c2 => ?_) (fun c2 => False.elim (by omega))
  refine lv_iload_n hx hb dJ3_checkIndex_8e157_16 rfl (lv_at hl 0 rfl) ?_
  rw [hQ]
  exact e_i F w hr hlocks ⟨_, rfl, (by omega), rfl⟩ dJ3_checkIndex_8e157_17
set_option maxRecDepth 4000 in
theorem q_chkR {l : Launch} {D : va_G} {B : Nat} {cy : Nat → ClassId} {M : Mem} {x : Int} (hx : (-2147483648) ≤ x ∧ x ≤ 2147483647) {x1 : Int} (hx1 : (-2147483648) ≤ x1 ∧ x1 ≤ 2147483647) {t9 : Nat} (hpre0 : 0 ≤ x ∧ x < x1) (hI : Inv M) : Ci l D B cy yJ3_checkIndex_8e157 cJ3_checkIndex_8e157 3 (some .int) 0 0 [.int (zI x), .int (zI x1), .ref t9] M (fun r M1 => ∃ z : Int, r = zI z ∧ (0 ≤ z ∧ z ≤ 2147483646) ∧ M1 = M) := by
  refine s_anyQ (by decide) (Nat.le_of_ble_eq_true rfl) ?_
  intro p e s m args below meth c ls Q F hr hlocks hQ w hl
  have F : CallFix p m c cJ3_checkIndex_8e157 3 s args TB RJ3 := F
  have hx := F.1
  have hb := F.2.1
  have hl : lv_has ls 3 [(0, .int (zI x)), (1, .int (zI x1)), (2, .ref t9)] := hl
  refine lv_iload_n hx hb dJ3_checkIndex_8e157_0 rfl (lv_at hl 0 rfl) ?_
  refine z_if_lt (tgt := 9) hx hb (by omega) dJ3_checkIndex_8e157_1 (by decide) (fun c1 => False.elim (by omega)) (fun c1 => ?_)
  refine lv_iload_n hx hb dJ3_checkIndex_8e157_4 rfl (lv_at hl 0 rfl) ?_
  refine lv_iload_n hx hb dJ3_checkIndex_8e157_5 rfl (lv_at hl 1 rfl) ?_
  refine z_icmp_lt (tgt := 16) hx hb (by omega) (by omega) dJ3_checkIndex_8e157_6 (by decide) (fun c2 => ?_) (fun c2 => False.elim (by omega))
  refine lv_iload_n hx hb dJ3_checkIndex_8e157_16 rfl (lv_at hl 0 rfl) ?_
  rw [hQ]
  exact e_i F w hr hlocks ⟨_, rfl, (by omega), rfl⟩ dJ3_checkIndex_8e157_17
theorem dJ0_checkIndex_df160_0 : decode cJ0_checkIndex_df160 0 = .ok (.iload_n 0, 1) := rdJ0_checkIndex_df160_0
theorem dJ0_checkIndex_df160_1 : decode cJ0_checkIndex_df160 1 = .ok (.iload_n 1, 1) := rdJ0_checkIndex_df160_1
theorem dJ0_checkIndex_df160_2 : decode cJ0_checkIndex_df160 2 = .ok (.getstatic 1053, 3) := rdJ0_checkIndex_df160_2
theorem tb_403 : Cond.fieldLink "java/lang/String" 1053 "jdk/internal/util/Preconditions" "SIOOBE_FORMATTER" "Ljava/util/function/BiFunction;" ∈ TB := rtb_7
theorem dJ0_checkIndex_df160_5 : decode cJ0_checkIndex_df160 5 = .ok (.invokestatic 1059, 3) := rdJ0_checkIndex_df160_5
theorem tk_J3_checkIndex_8e157 : Cond.code yJ3_checkIndex_8e157 cJ3_checkIndex_8e157 3 (some .int) ∈ TB := rtk_J3_checkIndex_8e157
theorem gc_J3_checkIndex_8e157 : GoodIn TB (cw yJ3_checkIndex_8e157 cJ3_checkIndex_8e157 3 (some .int)) := goodIn_c2 tk_J3_checkIndex_8e157
theorem tb_404 : Cond.methodLink "java/lang/String" 1059 yJ3_checkIndex_8e157 ∈ TB := rtb_8
theorem tb_405 : Cond.static yJ3_checkIndex_8e157 ∈ TB := rtb_9
theorem tb_406 : Cond.initialized "jdk/internal/util/Preconditions" ∈ TB := rtb_10
theorem gs_J0_1059 : GoodIn TB (va_wsS RJ0 1059 yJ3_checkIndex_8e157 (cw yJ3_checkIndex_8e157 cJ3_checkIndex_8e157 3 (some .int))) := goodIn_3 tb_404 tb_405 tb_406 gc_J3_checkIndex_8e157
theorem hs_J3_checkIndex_8e157 : yJ3_checkIndex_8e157.cls ≠ "java/lang/invoke/MethodHandle" ∧ yJ3_checkIndex_8e157.cls ≠ "java/lang/invoke/VarHandle" ∧ (parseMethodDescriptor yJ3_checkIndex_8e157.desc).map (fun d => d.parameters.length) = some 3 := rhs_J3_checkIndex_8e157
theorem dJ0_checkIndex_df160_8 : decode cJ0_checkIndex_df160 8 = .ok (.pop, 1) := rdJ0_checkIndex_df160_8
theorem dJ0_checkIndex_df160_9 : decode cJ0_checkIndex_df160 9 = .ok (.return_, 1) := rdJ0_checkIndex_df160_9
set_option maxRecDepth 4000 in
theorem q_J0_checkIndex_df160 {l : Launch} {D : va_G} {B : Nat} {cy : Nat → ClassId} {M : Mem} {x : Int} (hx : (-2147483648) ≤ x ∧ x ≤ 2147483647) {x1 : Int} (hx1 : (-2147483648) ≤ x1 ∧ x1 ≤ 2147483647) (hpre0 : 0 ≤ x ∧ x < x1) (hI : Inv M) : Cv l D B cy yJ0_checkIndex_df160 cJ0_checkIndex_df160 2 1 22 [.int (zI x), .int (zI x1)] M (fun M1 => M1 = M) := by
  refine s_anyQ (by decide) (Nat.le_of_ble_eq_true rfl) ?_
  intro p e s m args below meth c ls Q F hr hlocks hQ w hl
  have F : CallFix p m c cJ0_checkIndex_df160 2 s args TB RJ0 := F
  have hx := F.1
  have hb := F.2.1
  have hl : lv_has ls 2 [(0, .int (zI x)), (1, .int (zI x1))] := hl
  refine lv_iload_n hx hb dJ0_checkIndex_df160_0 rfl (lv_at hl 0 rfl) ?_
  refine lv_iload_n hx hb dJ0_checkIndex_df160_1 rfl (lv_at hl 1 rfl) ?_
  refine g_sio F w tb_403 dJ0_checkIndex_df160_2 ?_ (fun t9 => ?_)
  · refine k_Si F w (As := [.int (zI x), .int (zI x1), .null]) (rest := []) (q_chkN (x := x) (by omega) (x1 := x1) (by omega)  (by omega) hI) gs_J0_1059 hs_J3_checkIndex_8e157 ⟨(Nat.le_of_ble_eq_true rfl), (Nat.le_of_ble_eq_true rfl)⟩ hl.1 rfl (Nat.le_of_ble_eq_true rfl) ⟨Nat.zero_le _, Nat.zero_le _⟩ dJ0_checkIndex_df160_5 (fun r1 N2 H locs hp w => ?_)
    obtain ⟨z3, rfl, bz3, hMN2⟩ := hp
    rw [hMN2] at w
    refine lv_pop hx hb dJ0_checkIndex_df160_8 rfl ?_
    rw [hQ]
    exact e_v F w hr hlocks rfl dJ0_checkIndex_df160_9
  · refine k_Si F w (As := [.int (zI x), .int (zI x1), .ref t9]) (rest := []) (q_chkR (x := x) (by omega) (x1 := x1) (by omega) (t9 := t9) (by omega) hI) gs_J0_1059 hs_J3_checkIndex_8e157 ⟨(Nat.le_of_ble_eq_true rfl), (Nat.le_of_ble_eq_true rfl)⟩ hl.1 rfl (Nat.le_of_ble_eq_true rfl) ⟨Nat.zero_le _, Nat.zero_le _⟩ dJ0_checkIndex_df160_5 (fun r4 N5 H locs hp w => ?_)
    obtain ⟨z6, rfl, bz6, hMN5⟩ := hp
    rw [hMN5] at w
    refine lv_pop hx hb dJ0_checkIndex_df160_8 rfl ?_
    rw [hQ]
    exact e_v F w hr hlocks rfl dJ0_checkIndex_df160_9
theorem dJ1_charAt_3b067_0 : decode cJ1_charAt_3b067 0 = .ok (.iload_n 1, 1) := rdJ1_charAt_3b067_0
theorem dJ1_charAt_3b067_1 : decode cJ1_charAt_3b067 1 = .ok (.aload_n 0, 1) := rdJ1_charAt_3b067_1
theorem dJ1_charAt_3b067_2 : decode cJ1_charAt_3b067 2 = .ok (.arraylength, 1) := rdJ1_charAt_3b067_2
theorem dJ1_charAt_3b067_3 : decode cJ1_charAt_3b067 3 = .ok (.invokestatic 9, 3) := rdJ1_charAt_3b067_3
theorem tk_J0_checkIndex_df160 : Cond.code yJ0_checkIndex_df160 cJ0_checkIndex_df160 2 none ∈ TB := rtk_J0_checkIndex_df160
theorem gc_J0_checkIndex_df160 : GoodIn TB (cw yJ0_checkIndex_df160 cJ0_checkIndex_df160 2 none) := goodIn_c2 tk_J0_checkIndex_df160
theorem tb_407 : Cond.methodLink "java/lang/StringLatin1" 9 yJ0_checkIndex_df160 ∈ TB := rtb_11
theorem tb_408 : Cond.static yJ0_checkIndex_df160 ∈ TB := rtb_12
theorem gs_J1_9 : GoodIn TB (va_wsS RJ1 9 yJ0_checkIndex_df160 (cw yJ0_checkIndex_df160 cJ0_checkIndex_df160 2 none)) := goodIn_3 tb_407 tb_408 tb_402 gc_J0_checkIndex_df160
theorem hs_J0_checkIndex_df160 : yJ0_checkIndex_df160.cls ≠ "java/lang/invoke/MethodHandle" ∧ yJ0_checkIndex_df160.cls ≠ "java/lang/invoke/VarHandle" ∧ (parseMethodDescriptor yJ0_checkIndex_df160.desc).map (fun d => d.parameters.length) = some 2 := rhs_J0_checkIndex_df160
theorem dJ1_charAt_3b067_6 : decode cJ1_charAt_3b067 6 = .ok (.aload_n 0, 1) := rdJ1_charAt_3b067_6
theorem dJ1_charAt_3b067_7 : decode cJ1_charAt_3b067 7 = .ok (.iload_n 1, 1) := rdJ1_charAt_3b067_7
theorem dJ1_charAt_3b067_8 : decode cJ1_charAt_3b067 8 = .ok (.baload, 1) := rdJ1_charAt_3b067_8
theorem dJ1_charAt_3b067_9 : decode cJ1_charAt_3b067 9 = .ok (.sipush 255, 3) := rdJ1_charAt_3b067_9
theorem dJ1_charAt_3b067_12 : decode cJ1_charAt_3b067 12 = .ok (.iand, 1) := rdJ1_charAt_3b067_12
theorem dJ1_charAt_3b067_13 : decode cJ1_charAt_3b067 13 = .ok (.i2c, 1) := rdJ1_charAt_3b067_13
theorem dJ1_charAt_3b067_14 : decode cJ1_charAt_3b067 14 = .ok (.ireturn, 1) := rdJ1_charAt_3b067_14
set_option maxRecDepth 4000 in
theorem q_J1_charAt_3b067 {l : Launch} {D : va_G} {B : Nat} {cy : Nat → ClassId} {M : Mem} {i9 : Nat} (hi9 : i9 < NSL) {x : Int} (hx : (-2147483648) ≤ x ∧ x ≤ 2147483647) (hpre0 : 0 ≤ x ∧ x < slN i9) (hI : Inv M) : Ci l D B cy yJ1_charAt_3b067 cJ1_charAt_3b067 2 (some .char) 2 43 [.ref (D.2 201 i9), .int (zI x)] M (fun r M1 => ∃ z : Int, r = zI z ∧ (0 ≤ z ∧ z ≤ 65535) ∧ M1 = M) := by
  refine s_anyQ (by decide) (Nat.le_of_ble_eq_true rfl) ?_
  intro p e s m args below meth c ls Q F hr hlocks hQ w hl
  have F : CallFix p m c cJ1_charAt_3b067 2 s args TB RJ1 := F
  have hx := F.1
  have hb := F.2.1
  have hl : lv_has ls 2 [(0, .ref (D.2 201 i9)), (1, .int (zI x))] := hl
  have hsn_i9 := sl_len hi9
  refine lv_iload_n hx hb dJ1_charAt_3b067_0 rfl (lv_at hl 1 rfl) ?_
  refine lv_aload_n hx hb dJ1_charAt_3b067_1 rfl (lv_at hl 0 rfl) ?_
  have hsl2 := sl_len (i := i9) hi9
  refine g_slen F w (i := i9) hi9 dJ1_charAt_3b067_2 ?_
  refine k_Sv F w (As := [.int (zI x), .int (zI (slN i9))]) (rest := []) (q_J0_checkIndex_df160 (x := x) (by omega) (x1 := (slN i9)) (by omega) (by omega) hI) gs_J1_9 hs_J0_checkIndex_df160 ⟨(Nat.le_of_ble_eq_true rfl), (Nat.le_of_ble_eq_true rfl)⟩ hl.1 rfl (Nat.le_of_ble_eq_true rfl) ⟨Nat.zero_le _, Nat.zero_le _⟩ dJ1_charAt_3b067_3 (fun N2 H locs hp w => ?_)
  rw [hp] at w
  refine lv_aload_n hx hb dJ1_charAt_3b067_6 rfl (lv_at hl 0 rfl) ?_
  refine lv_iload_n hx hb dJ1_charAt_3b067_7 rfl (lv_at hl 1 rfl) ?_
  obtain ⟨z4, bz4, ez4⟩ := sl_ex (i := i9) hi9 (j := (Int.toNat x)) (by omega)
  refine g_sbyt F w (i := i9) hi9 (j := (Int.toNat x)) (ix_z (by omega) (by omega)) (by omega) ez4 dJ1_charAt_3b067_8 ?_
  refine lv_sipush (v := zI 255) hx hb dJ1_charAt_3b067_9 (by decide) ?_
  obtain ⟨z5, bz5, x0z5, x1z5, ez5⟩ := and_ex z4 255 (by omega) (by omega)
  refine lv_iand hx hb dJ1_charAt_3b067_12 ?_
  refine r_val ez5 ?_
  obtain ⟨z6, bz6, ez6⟩ := i2c_ex (zI z5)
  refine lv_i2c (v := zI z6) hx hb dJ1_charAt_3b067_13 ez6 ?_
  rw [hQ]
  exact e_z F w hr hlocks (nrv_c (by omega)) ⟨_, rfl, (by omega), rfl⟩ dJ1_charAt_3b067_14
theorem dJ0_charAt_5068e_0 : decode cJ0_charAt_5068e 0 = .ok (.aload_n 0, 1) := rdJ0_charAt_5068e_0
theorem dJ0_charAt_5068e_1 : decode cJ0_charAt_5068e 1 = .ok (.invokevirtual 492, 3) := rdJ0_charAt_5068e_1
theorem tk_J0_isLatin1_aae02 : Cond.code yJ0_isLatin1_aae02 cJ0_isLatin1_aae02 1 (some .boolean) ∈ TB := rtk_J0_isLatin1_aae02
theorem gc_J0_isLatin1_aae02 : GoodIn TB (cw yJ0_isLatin1_aae02 cJ0_isLatin1_aae02 1 (some .boolean)) := goodIn_c2 tk_J0_isLatin1_aae02
theorem tb_409 : Cond.methodLink "java/lang/String" 492 yJ0_isLatin1_aae02 ∈ TB := rtb_13
theorem tb_410 : Cond.instanceMethod yJ0_isLatin1_aae02 ∈ TB := rtb_14
theorem tb_411 : Cond.selects "java/lang/String" yJ0_isLatin1_aae02 yJ0_isLatin1_aae02 ∈ TB := rtb_15
theorem gv_J0_492 : GoodIn TB (wsV RJ0 492 RJ0 yJ0_isLatin1_aae02 (cw yJ0_isLatin1_aae02 cJ0_isLatin1_aae02 1 (some .boolean))) := goodIn_4 tb_409 tb_410 tb_411 tb_402 gc_J0_isLatin1_aae02
theorem hv_J0_isLatin1_aae02 : yJ0_isLatin1_aae02.cls = RJ0 ∧ yJ0_isLatin1_aae02.cls ≠ "java/lang/invoke/MethodHandle" ∧ yJ0_isLatin1_aae02.cls ≠ "java/lang/invoke/VarHandle" ∧ (parseMethodDescriptor yJ0_isLatin1_aae02.desc).map (fun d => d.parameters.length) = some 0 := rhv_J0_isLatin1_aae02
theorem dJ0_charAt_5068e_4 : decode cJ0_charAt_5068e 4 = .ok (.ifCond .eq 12, 3) := rdJ0_charAt_5068e_4
theorem dJ0_charAt_5068e_7 : decode cJ0_charAt_5068e 7 = .ok (.aload_n 0, 1) := rdJ0_charAt_5068e_7
theorem dJ0_charAt_5068e_8 : decode cJ0_charAt_5068e 8 = .ok (.getfield 9, 3) := rdJ0_charAt_5068e_8
theorem dJ0_charAt_5068e_11 : decode cJ0_charAt_5068e 11 = .ok (.iload_n 1, 1) := rdJ0_charAt_5068e_11
theorem dJ0_charAt_5068e_12 : decode cJ0_charAt_5068e 12 = .ok (.invokestatic 495, 3) := rdJ0_charAt_5068e_12
theorem tk_J1_charAt_3b067 : Cond.code yJ1_charAt_3b067 cJ1_charAt_3b067 2 (some .char) ∈ TB := rtk_J1_charAt_3b067
theorem gc_J1_charAt_3b067 : GoodIn TB (cw yJ1_charAt_3b067 cJ1_charAt_3b067 2 (some .char)) := goodIn_c2 tk_J1_charAt_3b067
theorem tb_412 : Cond.methodLink "java/lang/String" 495 yJ1_charAt_3b067 ∈ TB := rtb_16
theorem tb_413 : Cond.static yJ1_charAt_3b067 ∈ TB := rtb_17
theorem tb_414 : Cond.initialized "java/lang/StringLatin1" ∈ TB := rtb_18
theorem gs_J0_495 : GoodIn TB (va_wsS RJ0 495 yJ1_charAt_3b067 (cw yJ1_charAt_3b067 cJ1_charAt_3b067 2 (some .char))) := goodIn_3 tb_412 tb_413 tb_414 gc_J1_charAt_3b067
theorem hs_J1_charAt_3b067 : yJ1_charAt_3b067.cls ≠ "java/lang/invoke/MethodHandle" ∧ yJ1_charAt_3b067.cls ≠ "java/lang/invoke/VarHandle" ∧ (parseMethodDescriptor yJ1_charAt_3b067.desc).map (fun d => d.parameters.length) = some 2 := rhs_J1_charAt_3b067
theorem dJ0_charAt_5068e_15 : decode cJ0_charAt_5068e 15 = .ok (.ireturn, 1) := rdJ0_charAt_5068e_15
set_option maxRecDepth 4000 in
theorem q_J0_charAt_5068e {l : Launch} {D : va_G} {B : Nat} {cy : Nat → ClassId} {M : Mem} {i9 : Nat} (hi9 : i9 < NSL) {x : Int} (hx : (-2147483648) ≤ x ∧ x ≤ 2147483647) (hpre0 : 0 ≤ x ∧ x < slN i9) (hI : Inv M) : Ci l D B cy yJ0_charAt_5068e cJ0_charAt_5068e 2 (some .char) 3 64 [.ref (D.2 200 i9), .int (zI x)] M (fun r M1 => ∃ z : Int, r = zI z ∧ (0 ≤ z ∧ z ≤ 65535) ∧ M1 = M) := by
  refine s_anyQ (by decide) (Nat.le_of_ble_eq_true rfl) ?_
  intro p e s m args below meth c ls Q F hr hlocks hQ w hl
  have F : CallFix p m c cJ0_charAt_5068e 2 s args TB RJ0 := F
  have hx := F.1
  have hb := F.2.1
  have hl : lv_has ls 2 [(0, .ref (D.2 200 i9)), (1, .int (zI x))] := hl
  have hsn_i9 := sl_len hi9
  refine lv_aload_n hx hb dJ0_charAt_5068e_0 rfl (lv_at hl 0 rfl) ?_
  refine k_Qi F w (As := []) (rest := []) (i := i9) hi9 (q_J0_isLatin1_aae02 (i9 := i9) hi9  hI) gv_J0_492 hv_J0_isLatin1_aae02 ⟨(Nat.le_of_ble_eq_true rfl), (Nat.le_of_ble_eq_true rfl)⟩ hl.1 rfl (Nat.le_of_ble_eq_true rfl) ⟨Nat.zero_le _, Nat.zero_le _⟩ dJ0_charAt_5068e_1 (fun r1 N2 H locs hp w => ?_)
  obtain ⟨z3, rfl, bz3, hMN2⟩ := hp
  rw [hMN2] at w
  refine z_if_eq (tgt := 16) hx hb (by omega) dJ0_charAt_5068e_4 (by decide) (fun c4 => False.elim (by omega)) (fun c4 => ?_)
  refine lv_aload_n hx hb dJ0_charAt_5068e_7 rfl (lv_at hl 0 rfl) ?_
  refine g_sval F w (i := i9) hi9 tb_398 dJ0_charAt_5068e_8 ?_
  refine lv_iload_n hx hb dJ0_charAt_5068e_11 rfl (lv_at hl 1 rfl) ?_
  refine k_Si F w (As := [.ref (D.2 201 i9), .int (zI x)]) (rest := []) (q_J1_charAt_3b067 (i9 := i9) hi9 (x := x) (by omega) (by omega) hI) gs_J0_495 hs_J1_charAt_3b067 ⟨(Nat.le_of_ble_eq_true rfl), (Nat.le_of_ble_eq_true rfl)⟩ hl.1 rfl (Nat.le_of_ble_eq_true rfl) ⟨Nat.zero_le _, Nat.zero_le _⟩ dJ0_charAt_5068e_12 (fun r5 N6 H locs hp w => ?_)
  obtain ⟨z7, rfl, bz7, hMN6⟩ := hp
  rw [hMN6] at w
  rw [hQ]
  exact e_z F w hr hlocks (nrv_c (by omega)) ⟨_, rfl, (by omega), rfl⟩ dJ0_charAt_5068e_15
theorem dJ1_canEncode_9a6ad_0 : decode cJ1_canEncode_9a6ad 0 = .ok (.iload_n 0, 1) := udJ1_canEncode_9a6ad_0
theorem dJ1_canEncode_9a6ad_1 : decode cJ1_canEncode_9a6ad 1 = .ok (.ifCond .lt 14, 3) := udJ1_canEncode_9a6ad_1
theorem dJ1_canEncode_9a6ad_15 : decode cJ1_canEncode_9a6ad 15 = .ok (.iconst 0, 1) := dq0 kk_3 (by decide +kernel)
theorem dJ1_canEncode_9a6ad_16 : decode cJ1_canEncode_9a6ad 16 = .ok (.ireturn, 1) := udJ1_canEncode_9a6ad_16
theorem dJ1_canEncode_9a6ad_4 : decode cJ1_canEncode_9a6ad 4 = .ok (.iload_n 0, 1) := udJ1_canEncode_9a6ad_4
theorem dJ1_canEncode_9a6ad_5 : decode cJ1_canEncode_9a6ad 5 = .ok (.sipush 255, 3) := udJ1_canEncode_9a6ad_5
theorem dJ1_canEncode_9a6ad_8 : decode cJ1_canEncode_9a6ad 8 = .ok (.if_icmp .gt 7, 3) := udJ1_canEncode_9a6ad_8
theorem dJ1_canEncode_9a6ad_11 : decode cJ1_canEncode_9a6ad 11 = .ok (.iconst 1, 1) := udJ1_canEncode_9a6ad_11
theorem dJ1_canEncode_9a6ad_12 : decode cJ1_canEncode_9a6ad 12 = .ok (.goto 4, 3) := udJ1_canEncode_9a6ad_12
set_option maxRecDepth 4000 in
theorem q_J1_canEncode_9a6ad {l : Launch} {D : va_G} {B : Nat} {cy : Nat → ClassId} {M : Mem} {x : Int} (hx : (-2147483648) ≤ x ∧ x ≤ 2147483647) (hI : Inv M) : Ci l D B cy yJ1_canEncode_9a6ad cJ1_canEncode_9a6ad 1 (some .boolean) 0 0 [.int (zI x)] M (fun r M1 => ∃ z : Int, r = zI z ∧ (0 ≤ z ∧ z ≤ 1) ∧ M1 = M) := by
  refine s_anyQ (by decide) (Nat.le_of_ble_eq_true rfl) ?_
  intro p e s m args below meth c ls Q F hr hlocks hQ w hl
  have F : CallFix p m c cJ1_canEncode_9a6ad 1 s args TB RJ1 := F
  have hx := F.1
  have hb := F.2.1
  have hl : lv_has ls 1 [(0, .int (zI x))] := hl
  refine lv_iload_n hx hb dJ1_canEncode_9a6ad_0 rfl (lv_at hl 0 rfl) ?_
  refine z_if_lt (tgt := 15) hx hb (by omega) dJ1_canEncode_9a6ad_1 (by decide) (fun c1 => ?_) (fun c1 => ?_)
  · refine lv_iconst (v := zI 0) hx hb dJ1_canEncode_9a6ad_15 rfl ?_
    rw [hQ]
    exact e_z F w hr hlocks (nar_z (by omega)) ⟨_, rfl, (by omega), rfl⟩ dJ1_canEncode_9a6ad_16
  · refine lv_iload_n hx hb dJ1_canEncode_9a6ad_4 rfl (lv_at hl 0 rfl) ?_
    refine lv_sipush (v := zI 255) hx hb dJ1_canEncode_9a6ad_5 (by decide) ?_
    refine z_icmp_gt (tgt := 15) hx hb (by omega) (by omega) dJ1_canEncode_9a6ad_8 (by decide) (fun c2 => ?_) (fun c2 => ?_)
    · refine lv_iconst (v := zI 0) hx hb dJ1_canEncode_9a6ad_15 rfl ?_
      rw [hQ]
      exact e_z F w hr hlocks (nar_z (by omega)) ⟨_, rfl, (by omega), rfl⟩ dJ1_canEncode_9a6ad_16
    · refine lv_iconst (v := zI 1) hx hb dJ1_canEncode_9a6ad_11 rfl ?_
      refine lv_goto (tgt := 16) hx hb dJ1_canEncode_9a6ad_12 (by decide) ?_
      rw [hQ]
      exact e_z F w hr hlocks (nar_z (by omega)) ⟨_, rfl, (by omega), rfl⟩ dJ1_canEncode_9a6ad_16
theorem dJ1_indexOfChar_4cfef_0 : decode cJ1_indexOfChar_4cfef 0 = .ok (.iload_n 1, 1) := udJ1_indexOfChar_4cfef_0
theorem dJ1_indexOfChar_4cfef_1 : decode cJ1_indexOfChar_4cfef 1 = .ok (.i2b, 1) := udJ1_indexOfChar_4cfef_1
theorem dJ1_indexOfChar_4cfef_2 : decode cJ1_indexOfChar_4cfef 2 = .ok (.istore 4, 2) := udJ1_indexOfChar_4cfef_2
theorem dJ1_indexOfChar_4cfef_4 : decode cJ1_indexOfChar_4cfef 4 = .ok (.iload_n 2, 1) := udJ1_indexOfChar_4cfef_4
theorem dJ1_indexOfChar_4cfef_5 : decode cJ1_indexOfChar_4cfef 5 = .ok (.istore 5, 2) := udJ1_indexOfChar_4cfef_5
theorem dJ1_indexOfChar_4cfef_7 : decode cJ1_indexOfChar_4cfef 7 = .ok (.iload 5, 2) := udJ1_indexOfChar_4cfef_7
theorem dJ1_indexOfChar_4cfef_9 : decode cJ1_indexOfChar_4cfef 9 = .ok (.iload_n 3, 1) := udJ1_indexOfChar_4cfef_9
theorem dJ1_indexOfChar_4cfef_10 : decode cJ1_indexOfChar_4cfef 10 = .ok (.if_icmp .ge 21, 3) := udJ1_indexOfChar_4cfef_10
theorem dJ1_indexOfChar_4cfef_31 : decode cJ1_indexOfChar_4cfef 31 = .ok (.iconst (-1), 1) := udJ1_indexOfChar_4cfef_31
theorem dJ1_indexOfChar_4cfef_32 : decode cJ1_indexOfChar_4cfef 32 = .ok (.ireturn, 1) := udJ1_indexOfChar_4cfef_32
theorem dJ1_indexOfChar_4cfef_13 : decode cJ1_indexOfChar_4cfef 13 = .ok (.aload_n 0, 1) := udJ1_indexOfChar_4cfef_13
theorem dJ1_indexOfChar_4cfef_14 : decode cJ1_indexOfChar_4cfef 14 = .ok (.iload 5, 2) := udJ1_indexOfChar_4cfef_14
theorem dJ1_indexOfChar_4cfef_16 : decode cJ1_indexOfChar_4cfef 16 = .ok (.baload, 1) := udJ1_indexOfChar_4cfef_16
theorem dJ1_indexOfChar_4cfef_17 : decode cJ1_indexOfChar_4cfef 17 = .ok (.iload 4, 2) := udJ1_indexOfChar_4cfef_17
theorem dJ1_indexOfChar_4cfef_19 : decode cJ1_indexOfChar_4cfef 19 = .ok (.if_icmp .ne 6, 3) := udJ1_indexOfChar_4cfef_19
theorem dJ1_indexOfChar_4cfef_25 : decode cJ1_indexOfChar_4cfef 25 = .ok (.iinc 5 1, 3) := udJ1_indexOfChar_4cfef_25
theorem dJ1_indexOfChar_4cfef_28 : decode cJ1_indexOfChar_4cfef 28 = .ok (.goto (-21), 3) := udJ1_indexOfChar_4cfef_28
theorem dJ1_indexOfChar_4cfef_22 : decode cJ1_indexOfChar_4cfef 22 = .ok (.iload 5, 2) := udJ1_indexOfChar_4cfef_22
theorem dJ1_indexOfChar_4cfef_24 : decode cJ1_indexOfChar_4cfef 24 = .ok (.ireturn, 1) := udJ1_indexOfChar_4cfef_24
set_option maxRecDepth 4000 in
theorem q_J1_indexOfChar_4cfef {l : Launch} {D : va_G} {B : Nat} {cy : Nat → ClassId} {M : Mem} {i9 : Nat} (hi9 : i9 < NSL) {x : Int} (hx : (-2147483648) ≤ x ∧ x ≤ 2147483647) {x1 : Int} (hx1 : 0 ≤ x1 ∧ x1 ≤ 0) {x2 : Int} (hx2 : 0 ≤ x2 ∧ x2 ≤ 52) (hpre0 : x2 ≤ slN i9) (hI : Inv M) : Ci l D B cy yJ1_indexOfChar_4cfef cJ1_indexOfChar_4cfef 6 (some .int) 0 0 [.ref (D.2 201 i9), .int (zI x), .int (zI x1), .int (zI x2)] M (fun r M1 => ∃ z : Int, r = zI z ∧ ((-1) ≤ z ∧ z ≤ 51) ∧ M1 = M) := by
  refine s_anyQ (by decide) (Nat.le_of_ble_eq_true rfl) ?_
  intro p e s m args below meth c ls Q F hr hlocks hQ w hl
  have F : CallFix p m c cJ1_indexOfChar_4cfef 6 s args TB RJ1 := F
  have hx := F.1
  have hb := F.2.1
  have hl : lv_has ls 6 [(0, .ref (D.2 201 i9)), (1, .int (zI x)), (2, .int (zI x1)), (3, .int (zI x2))] := hl
  have hsn_i9 := sl_len hi9
  refine lv_iload_n hx hb dJ1_indexOfChar_4cfef_0 rfl (lv_at hl 1 rfl) ?_
  obtain ⟨z1, bz1, ez1⟩ := i2b_ex (zI x)
  refine lv_i2b (v := zI z1) hx hb dJ1_indexOfChar_4cfef_1 ez1 ?_
  refine lv_istore (lv' := [(4, .int (zI z1)), (0, .ref (D.2 201 i9)), (1, .int (zI x)), (2, .int (zI x1)), (3, .int (zI x2))]) hx hb dJ1_indexOfChar_4cfef_2 hl (by decide) rfl (fun ls hl => ?_)
  refine lv_iload_n hx hb dJ1_indexOfChar_4cfef_4 rfl (lv_at hl 3 rfl) ?_
  refine lv_istore (lv' := [(5, .int (zI x1)), (4, .int (zI z1)), (0, .ref (D.2 201 i9)), (1, .int (zI x)), (2, .int (zI x1)), (3, .int (zI x2))]) hx hb dJ1_indexOfChar_4cfef_5 hl (by decide) rfl (fun ls hl => ?_)
  have lp7 : ∀ (f : Nat) (v5_7 : Int), (0 ≤ v5_7 ∧ v5_7 ≤ 63) → (Int.toNat (52 - v5_7) < f) → ∀ (H : Heap) (locs : List Loc) (ls : Array Slot), Wd D B cy s s.heap M H locs → lv_has ls 6 [(5, .int (zI v5_7)), (4, .int (zI z1)), (0, .ref (D.2 201 i9)), (1, .int (zI x)), (2, .int (zI x1)), (3, .int (zI x2))] → W p l e (rmm 0 0) s m args below meth c H locs 0 0 Q (F0 m 7 ls []) := by
    intro f
    induction f with
    | zero => intros; omega
    | succ f ih7 =>
      intro v5_7  iv5_7 hf7 H locs ls w hl
      refine lv_iload hx hb dJ1_indexOfChar_4cfef_7 (lv_at hl 0 rfl) ?_
      refine lv_iload_n hx hb dJ1_indexOfChar_4cfef_9 rfl (lv_at hl 5 rfl) ?_
      refine z_icmp_ge (tgt := 31) hx hb (by omega) (by omega) dJ1_indexOfChar_4cfef_10 (by decide) (fun c2 => ?_) (fun c2 => ?_)
      · refine lv_iconst (v := zI (-1)) hx hb dJ1_indexOfChar_4cfef_31 rfl ?_
        rw [hQ]
        exact e_i F w hr hlocks ⟨_, rfl, (by omega), rfl⟩ dJ1_indexOfChar_4cfef_32
      · refine lv_aload_n hx hb dJ1_indexOfChar_4cfef_13 rfl (lv_at hl 2 rfl) ?_
        refine lv_iload hx hb dJ1_indexOfChar_4cfef_14 (lv_at hl 0 rfl) ?_
        obtain ⟨z3, bz3, ez3⟩ := sl_ex (i := i9) hi9 (j := (Int.toNat v5_7)) (by omega)
        refine g_sbyt F w (i := i9) hi9 (j := (Int.toNat v5_7)) (ix_z (by omega) (by omega)) (by omega) ez3 dJ1_indexOfChar_4cfef_16 ?_
        refine lv_iload hx hb dJ1_indexOfChar_4cfef_17 (lv_at hl 1 rfl) ?_
        refine z_icmp_ne (tgt := 25) hx hb (by omega) (by omega) dJ1_indexOfChar_4cfef_19 (by decide) (fun c4 => ?_) (fun c4 => ?_)
        · refine z_iinc (v := (v5_7 + 1)) (lv' := [(5, .int (zI (v5_7 + 1))), (4, .int (zI z1)), (0, .ref (D.2 201 i9)), (1, .int (zI x)), (2, .int (zI x1)), (3, .int (zI x2))]) hx hb dJ1_indexOfChar_4cfef_25 hl (k := 0) rfl (by omega) (by decide) rfl (fun ls hl => ?_)
          refine lv_goto (tgt := 7) hx hb dJ1_indexOfChar_4cfef_28 (by decide) ?_
          exact ih7 (v5_7 + 1) (by omega)     (by omega) _ _ _ w (lv_sub hl [0, 1, 2, 3, 4, 5] rfl)
        · refine lv_iload hx hb dJ1_indexOfChar_4cfef_22 (lv_at hl 0 rfl) ?_
          rw [hQ]
          exact e_i F w hr hlocks ⟨_, rfl, (by omega), rfl⟩ dJ1_indexOfChar_4cfef_24
  exact lp7 _ x1 (by omega) (Nat.lt_succ_self _) _ _ _ w (lv_sub hl [0, 1, 2, 3, 4, 5] rfl)
theorem dJ1_indexOf_4cfef_0 : decode cJ1_indexOf_4cfef 0 = .ok (.iload_n 1, 1) := udJ1_indexOf_4cfef_0
theorem dJ1_indexOf_4cfef_1 : decode cJ1_indexOf_4cfef 1 = .ok (.invokestatic 88, 3) := udJ1_indexOf_4cfef_1
theorem tk_J1_canEncode_9a6ad : Cond.code yJ1_canEncode_9a6ad cJ1_canEncode_9a6ad 1 (some .boolean) ∈ TB := utk_J1_canEncode_9a6ad
theorem gc_J1_canEncode_9a6ad : GoodIn TB (cw yJ1_canEncode_9a6ad cJ1_canEncode_9a6ad 1 (some .boolean)) := goodIn_c2 tk_J1_canEncode_9a6ad
theorem tb_415 : Cond.methodLink "java/lang/StringLatin1" 88 yJ1_canEncode_9a6ad ∈ TB := utb_0
theorem tb_416 : Cond.static yJ1_canEncode_9a6ad ∈ TB := utb_1
theorem gs_J1_88 : GoodIn TB (va_wsS RJ1 88 yJ1_canEncode_9a6ad (cw yJ1_canEncode_9a6ad cJ1_canEncode_9a6ad 1 (some .boolean))) := goodIn_3 tb_415 tb_416 tb_414 gc_J1_canEncode_9a6ad
theorem hs_J1_canEncode_9a6ad : yJ1_canEncode_9a6ad.cls ≠ "java/lang/invoke/MethodHandle" ∧ yJ1_canEncode_9a6ad.cls ≠ "java/lang/invoke/VarHandle" ∧ (parseMethodDescriptor yJ1_canEncode_9a6ad.desc).map (fun d => d.parameters.length) = some 1 := uhs_J1_canEncode_9a6ad
theorem dJ1_indexOf_4cfef_4 : decode cJ1_indexOf_4cfef 4 = .ok (.ifCond .ne 5, 3) := udJ1_indexOf_4cfef_4
theorem dJ1_indexOf_4cfef_9 : decode cJ1_indexOf_4cfef 9 = .ok (.iload_n 2, 1) := udJ1_indexOf_4cfef_9
theorem dJ1_indexOf_4cfef_10 : decode cJ1_indexOf_4cfef 10 = .ok (.iconst 0, 1) := udJ1_indexOf_4cfef_10
theorem dJ1_indexOf_4cfef_11 : decode cJ1_indexOf_4cfef 11 = .ok (.invokestatic 92, 3) := udJ1_indexOf_4cfef_11
theorem tb_417 : Cond.methodLink "java/lang/StringLatin1" 92 yJ9_max_7cf53 ∈ TB := utb_3
theorem dJ1_indexOf_4cfef_14 : decode cJ1_indexOf_4cfef 14 = .ok (.istore_n 2, 1) := udJ1_indexOf_4cfef_14
theorem dJ1_indexOf_4cfef_15 : decode cJ1_indexOf_4cfef 15 = .ok (.iload_n 3, 1) := udJ1_indexOf_4cfef_15
theorem dJ1_indexOf_4cfef_16 : decode cJ1_indexOf_4cfef 16 = .ok (.aload_n 0, 1) := udJ1_indexOf_4cfef_16
theorem dJ1_indexOf_4cfef_17 : decode cJ1_indexOf_4cfef 17 = .ok (.arraylength, 1) := udJ1_indexOf_4cfef_17
theorem dJ1_indexOf_4cfef_18 : decode cJ1_indexOf_4cfef 18 = .ok (.invokestatic 38, 3) := udJ1_indexOf_4cfef_18
theorem tb_418 : Cond.methodLink "java/lang/StringLatin1" 38 yJ9_min_7cf53 ∈ TB := utb_7
theorem dJ1_indexOf_4cfef_21 : decode cJ1_indexOf_4cfef 21 = .ok (.istore_n 3, 1) := udJ1_indexOf_4cfef_21
theorem dJ1_indexOf_4cfef_22 : decode cJ1_indexOf_4cfef 22 = .ok (.iload_n 2, 1) := udJ1_indexOf_4cfef_22
theorem dJ1_indexOf_4cfef_23 : decode cJ1_indexOf_4cfef 23 = .ok (.iload_n 3, 1) := udJ1_indexOf_4cfef_23
theorem dJ1_indexOf_4cfef_24 : decode cJ1_indexOf_4cfef 24 = .ok (.if_icmp .lt 5, 3) := udJ1_indexOf_4cfef_24
theorem dJ1_indexOf_4cfef_29 : decode cJ1_indexOf_4cfef 29 = .ok (.aload_n 0, 1) := udJ1_indexOf_4cfef_29
theorem dJ1_indexOf_4cfef_30 : decode cJ1_indexOf_4cfef 30 = .ok (.iload_n 1, 1) := udJ1_indexOf_4cfef_30
theorem dJ1_indexOf_4cfef_31 : decode cJ1_indexOf_4cfef 31 = .ok (.iload_n 2, 1) := udJ1_indexOf_4cfef_31
theorem dJ1_indexOf_4cfef_32 : decode cJ1_indexOf_4cfef 32 = .ok (.iload_n 3, 1) := udJ1_indexOf_4cfef_32
theorem dJ1_indexOf_4cfef_33 : decode cJ1_indexOf_4cfef 33 = .ok (.invokestatic 95, 3) := udJ1_indexOf_4cfef_33
theorem tk_J1_indexOfChar_4cfef : Cond.code yJ1_indexOfChar_4cfef cJ1_indexOfChar_4cfef 6 (some .int) ∈ TB := utk_J1_indexOfChar_4cfef
theorem gc_J1_indexOfChar_4cfef : GoodIn TB (cw yJ1_indexOfChar_4cfef cJ1_indexOfChar_4cfef 6 (some .int)) := goodIn_c2 tk_J1_indexOfChar_4cfef
theorem tb_419 : Cond.methodLink "java/lang/StringLatin1" 95 yJ1_indexOfChar_4cfef ∈ TB := utb_10
theorem tb_420 : Cond.static yJ1_indexOfChar_4cfef ∈ TB := utb_11
theorem gs_J1_95 : GoodIn TB (va_wsS RJ1 95 yJ1_indexOfChar_4cfef (cw yJ1_indexOfChar_4cfef cJ1_indexOfChar_4cfef 6 (some .int))) := goodIn_3 tb_419 tb_420 tb_414 gc_J1_indexOfChar_4cfef
theorem hs_J1_indexOfChar_4cfef : yJ1_indexOfChar_4cfef.cls ≠ "java/lang/invoke/MethodHandle" ∧ yJ1_indexOfChar_4cfef.cls ≠ "java/lang/invoke/VarHandle" ∧ (parseMethodDescriptor yJ1_indexOfChar_4cfef.desc).map (fun d => d.parameters.length) = some 4 := uhs_J1_indexOfChar_4cfef
theorem dJ1_indexOf_4cfef_36 : decode cJ1_indexOf_4cfef 36 = .ok (.ireturn, 1) := udJ1_indexOf_4cfef_36
theorem dJ1_indexOf_4cfef_27 : decode cJ1_indexOf_4cfef 27 = .ok (.iconst (-1), 1) := dq0 kk_2 (by decide +kernel)
theorem dJ1_indexOf_4cfef_28 : decode cJ1_indexOf_4cfef 28 = .ok (.ireturn, 1) := dq0 kk_172 (by decide +kernel)
theorem dJ1_indexOf_4cfef_7 : decode cJ1_indexOf_4cfef 7 = .ok (.iconst (-1), 1) := dq0 kk_2 (by decide +kernel)
theorem dJ1_indexOf_4cfef_8 : decode cJ1_indexOf_4cfef 8 = .ok (.ireturn, 1) := dq0 kk_172 (by decide +kernel)
set_option maxRecDepth 4000 in
theorem q_J1_indexOf_4cfef {l : Launch} {D : va_G} {B : Nat} {cy : Nat → ClassId} {M : Mem} {i9 : Nat} (hi9 : i9 < NSL) {x : Int} (hx : (-2147483648) ≤ x ∧ x ≤ 2147483647) {x1 : Int} (hx1 : 0 ≤ x1 ∧ x1 ≤ 0) {x2 : Int} (hx2 : 0 ≤ x2 ∧ x2 ≤ 52) (hI : Inv M) : Ci l D B cy yJ1_indexOf_4cfef cJ1_indexOf_4cfef 4 (some .int) 1 25 [.ref (D.2 201 i9), .int (zI x), .int (zI x1), .int (zI x2)] M (fun r M1 => ∃ z : Int, r = zI z ∧ ((-1) ≤ z ∧ z ≤ 51) ∧ M1 = M) := by
  refine s_anyQ (by decide) (Nat.le_of_ble_eq_true rfl) ?_
  intro p e s m args below meth c ls Q F hr hlocks hQ w hl
  have F : CallFix p m c cJ1_indexOf_4cfef 4 s args TB RJ1 := F
  have hx := F.1
  have hb := F.2.1
  have hl : lv_has ls 4 [(0, .ref (D.2 201 i9)), (1, .int (zI x)), (2, .int (zI x1)), (3, .int (zI x2))] := hl
  have hsn_i9 := sl_len hi9
  refine lv_iload_n hx hb dJ1_indexOf_4cfef_0 rfl (lv_at hl 1 rfl) ?_
  refine k_Si F w (As := [.int (zI x)]) (rest := []) (q_J1_canEncode_9a6ad (x := x) (by omega)  hI) gs_J1_88 hs_J1_canEncode_9a6ad ⟨(Nat.le_of_ble_eq_true rfl), (Nat.le_of_ble_eq_true rfl)⟩ hl.1 rfl (Nat.le_of_ble_eq_true rfl) ⟨Nat.zero_le _, Nat.zero_le _⟩ dJ1_indexOf_4cfef_1 (fun r1 N2 H locs hp w => ?_)
  obtain ⟨z3, rfl, bz3, hMN2⟩ := hp
  rw [hMN2] at w
  refine z_if_ne (tgt := 9) hx hb (by omega) dJ1_indexOf_4cfef_4 (by decide) (fun c4 => ?_) (fun c4 => ?_)
  · refine lv_iload_n hx hb dJ1_indexOf_4cfef_9 rfl (lv_at hl 2 rfl) ?_
    refine lv_iconst (v := zI 0) hx hb dJ1_indexOf_4cfef_10 rfl ?_
    obtain ⟨z5, bz5, ez5⟩ := max_ex x1 0 (by omega) (by omega)
    refine g_max F hl.1 tb_417 tb_51 tb_52 tq_max (Nat.le_of_ble_eq_true rfl) (Nat.le_of_ble_eq_true rfl) (Nat.zero_le _) (Nat.zero_le _) (v := zI z5) ez5 dJ1_indexOf_4cfef_11 ?_
    refine lv_istore_n (lv' := [(2, .int (zI z5)), (0, .ref (D.2 201 i9)), (1, .int (zI x)), (3, .int (zI x2))]) hx hb dJ1_indexOf_4cfef_14 rfl hl (by decide) rfl (fun ls hl => ?_)
    refine lv_iload_n hx hb dJ1_indexOf_4cfef_15 rfl (lv_at hl 3 rfl) ?_
    refine lv_aload_n hx hb dJ1_indexOf_4cfef_16 rfl (lv_at hl 1 rfl) ?_
    have hsl17 := sl_len (i := i9) hi9
    refine g_slen F w (i := i9) hi9 dJ1_indexOf_4cfef_17 ?_
    obtain ⟨z6, bz6, ez6⟩ := min_ex x2 (slN i9) (by omega) (by omega)
    refine g_min F hl.1 tb_418 tb_178 tb_52 tq_min (Nat.le_of_ble_eq_true rfl) (Nat.le_of_ble_eq_true rfl) (Nat.zero_le _) (Nat.zero_le _) (v := zI z6) ez6 dJ1_indexOf_4cfef_18 ?_
    refine lv_istore_n (lv' := [(3, .int (zI z6)), (2, .int (zI z5)), (0, .ref (D.2 201 i9)), (1, .int (zI x))]) hx hb dJ1_indexOf_4cfef_21 rfl hl (by decide) rfl (fun ls hl => ?_)
    refine lv_iload_n hx hb dJ1_indexOf_4cfef_22 rfl (lv_at hl 1 rfl) ?_
    refine lv_iload_n hx hb dJ1_indexOf_4cfef_23 rfl (lv_at hl 0 rfl) ?_
    refine z_icmp_lt (tgt := 29) hx hb (by omega) (by omega) dJ1_indexOf_4cfef_24 (by decide) (fun c7 => ?_) (fun c7 => ?_)
    · refine lv_aload_n hx hb dJ1_indexOf_4cfef_29 rfl (lv_at hl 2 rfl) ?_
      refine lv_iload_n hx hb dJ1_indexOf_4cfef_30 rfl (lv_at hl 3 rfl) ?_
      refine lv_iload_n hx hb dJ1_indexOf_4cfef_31 rfl (lv_at hl 1 rfl) ?_
      refine lv_iload_n hx hb dJ1_indexOf_4cfef_32 rfl (lv_at hl 0 rfl) ?_
      refine k_Si F w (As := [.ref (D.2 201 i9), .int (zI x), .int (zI z5), .int (zI z6)]) (rest := []) (q_J1_indexOfChar_4cfef (i9 := i9) hi9 (x := x) (by omega) (x1 := z5) (by omega) (x2 := z6) (by omega) (by omega) hI) gs_J1_95 hs_J1_indexOfChar_4cfef ⟨(Nat.le_of_ble_eq_true rfl), (Nat.le_of_ble_eq_true rfl)⟩ hl.1 rfl (Nat.le_of_ble_eq_true rfl) ⟨Nat.zero_le _, Nat.zero_le _⟩ dJ1_indexOf_4cfef_33 (fun r8 N9 H locs hp w => ?_)
      obtain ⟨z10, rfl, bz10, hMN9⟩ := hp
      rw [hMN9] at w
      rw [hQ]
      exact e_i F w hr hlocks ⟨_, rfl, (by omega), rfl⟩ dJ1_indexOf_4cfef_36
    · refine lv_iconst (v := zI (-1)) hx hb dJ1_indexOf_4cfef_27 rfl ?_
      rw [hQ]
      exact e_i F w hr hlocks ⟨_, rfl, (by omega), rfl⟩ dJ1_indexOf_4cfef_28
  · refine lv_iconst (v := zI (-1)) hx hb dJ1_indexOf_4cfef_7 rfl ?_
    rw [hQ]
    exact e_i F w hr hlocks ⟨_, rfl, (by omega), rfl⟩ dJ1_indexOf_4cfef_8
theorem dJ0_indexOf_7cf53_0 : decode cJ0_indexOf_7cf53 0 = .ok (.aload_n 0, 1) := udJ0_indexOf_7cf53_0
theorem dJ0_indexOf_7cf53_1 : decode cJ0_indexOf_7cf53 1 = .ok (.invokevirtual 492, 3) := udJ0_indexOf_7cf53_1
theorem dJ0_indexOf_7cf53_4 : decode cJ0_indexOf_7cf53 4 = .ok (.ifCond .eq 19, 3) := udJ0_indexOf_7cf53_4
theorem dJ0_indexOf_7cf53_7 : decode cJ0_indexOf_7cf53 7 = .ok (.aload_n 0, 1) := udJ0_indexOf_7cf53_7
theorem dJ0_indexOf_7cf53_8 : decode cJ0_indexOf_7cf53 8 = .ok (.getfield 9, 3) := udJ0_indexOf_7cf53_8
theorem dJ0_indexOf_7cf53_11 : decode cJ0_indexOf_7cf53 11 = .ok (.iload_n 1, 1) := udJ0_indexOf_7cf53_11
theorem dJ0_indexOf_7cf53_12 : decode cJ0_indexOf_7cf53 12 = .ok (.iload_n 2, 1) := udJ0_indexOf_7cf53_12
theorem dJ0_indexOf_7cf53_13 : decode cJ0_indexOf_7cf53 13 = .ok (.aload_n 0, 1) := udJ0_indexOf_7cf53_13
theorem dJ0_indexOf_7cf53_14 : decode cJ0_indexOf_7cf53 14 = .ok (.invokevirtual 505, 3) := udJ0_indexOf_7cf53_14
theorem tk_J0_length_8abf5 : Cond.code yJ0_length_8abf5 cJ0_length_8abf5 1 (some .int) ∈ TB := rtk_J0_length_8abf5
theorem gc_J0_length_8abf5 : GoodIn TB (cw yJ0_length_8abf5 cJ0_length_8abf5 1 (some .int)) := goodIn_c2 tk_J0_length_8abf5
theorem tb_421 : Cond.methodLink "java/lang/String" 505 yJ0_length_8abf5 ∈ TB := utb_17
theorem tb_422 : Cond.instanceMethod yJ0_length_8abf5 ∈ TB := rtb_39
theorem tb_423 : Cond.selects "java/lang/String" yJ0_length_8abf5 yJ0_length_8abf5 ∈ TB := rtb_40
theorem gv_J0_505 : GoodIn TB (wsV RJ0 505 RJ0 yJ0_length_8abf5 (cw yJ0_length_8abf5 cJ0_length_8abf5 1 (some .int))) := goodIn_4 tb_421 tb_422 tb_423 tb_402 gc_J0_length_8abf5
theorem hv_J0_length_8abf5 : yJ0_length_8abf5.cls = RJ0 ∧ yJ0_length_8abf5.cls ≠ "java/lang/invoke/MethodHandle" ∧ yJ0_length_8abf5.cls ≠ "java/lang/invoke/VarHandle" ∧ (parseMethodDescriptor yJ0_length_8abf5.desc).map (fun d => d.parameters.length) = some 0 := rhv_J0_length_8abf5
theorem dJ0_indexOf_7cf53_17 : decode cJ0_indexOf_7cf53 17 = .ok (.invokestatic 637, 3) := udJ0_indexOf_7cf53_17
theorem tk_J1_indexOf_4cfef : Cond.code yJ1_indexOf_4cfef cJ1_indexOf_4cfef 4 (some .int) ∈ TB := utk_J1_indexOf_4cfef
theorem gc_J1_indexOf_4cfef : GoodIn TB (cw yJ1_indexOf_4cfef cJ1_indexOf_4cfef 4 (some .int)) := goodIn_c2 tk_J1_indexOf_4cfef
theorem tb_424 : Cond.methodLink "java/lang/String" 637 yJ1_indexOf_4cfef ∈ TB := utb_20
theorem tb_425 : Cond.static yJ1_indexOf_4cfef ∈ TB := utb_21
theorem gs_J0_637 : GoodIn TB (va_wsS RJ0 637 yJ1_indexOf_4cfef (cw yJ1_indexOf_4cfef cJ1_indexOf_4cfef 4 (some .int))) := goodIn_3 tb_424 tb_425 tb_414 gc_J1_indexOf_4cfef
theorem hs_J1_indexOf_4cfef : yJ1_indexOf_4cfef.cls ≠ "java/lang/invoke/MethodHandle" ∧ yJ1_indexOf_4cfef.cls ≠ "java/lang/invoke/VarHandle" ∧ (parseMethodDescriptor yJ1_indexOf_4cfef.desc).map (fun d => d.parameters.length) = some 4 := uhs_J1_indexOf_4cfef
theorem dJ0_indexOf_7cf53_20 : decode cJ0_indexOf_7cf53 20 = .ok (.goto 16, 3) := udJ0_indexOf_7cf53_20
theorem dJ0_indexOf_7cf53_36 : decode cJ0_indexOf_7cf53 36 = .ok (.ireturn, 1) := udJ0_indexOf_7cf53_36
set_option maxRecDepth 4000 in
theorem q_J0_indexOf_7cf53 {l : Launch} {D : va_G} {B : Nat} {cy : Nat → ClassId} {M : Mem} {i9 : Nat} (hi9 : i9 < NSL) {x : Int} (hx : (-2147483648) ≤ x ∧ x ≤ 2147483647) {x1 : Int} (hx1 : 0 ≤ x1 ∧ x1 ≤ 0) (hI : Inv M) : Ci l D B cy yJ0_indexOf_7cf53 cJ0_indexOf_7cf53 3 (some .int) 2 48 [.ref (D.2 200 i9), .int (zI x), .int (zI x1)] M (fun r M1 => ∃ z : Int, r = zI z ∧ ((-1) ≤ z ∧ z ≤ 51) ∧ M1 = M) := by
  refine s_anyQ (by decide) (Nat.le_of_ble_eq_true rfl) ?_
  intro p e s m args below meth c ls Q F hr hlocks hQ w hl
  have F : CallFix p m c cJ0_indexOf_7cf53 3 s args TB RJ0 := F
  have hx := F.1
  have hb := F.2.1
  have hl : lv_has ls 3 [(0, .ref (D.2 200 i9)), (1, .int (zI x)), (2, .int (zI x1))] := hl
  have hsn_i9 := sl_len hi9
  refine lv_aload_n hx hb dJ0_indexOf_7cf53_0 rfl (lv_at hl 0 rfl) ?_
  refine k_Qi F w (As := []) (rest := []) (i := i9) hi9 (q_J0_isLatin1_aae02 (i9 := i9) hi9  hI) gv_J0_492 hv_J0_isLatin1_aae02 ⟨(Nat.le_of_ble_eq_true rfl), (Nat.le_of_ble_eq_true rfl)⟩ hl.1 rfl (Nat.le_of_ble_eq_true rfl) ⟨Nat.zero_le _, Nat.zero_le _⟩ dJ0_indexOf_7cf53_1 (fun r1 N2 H locs hp w => ?_)
  obtain ⟨z3, rfl, bz3, hMN2⟩ := hp
  rw [hMN2] at w
  refine z_if_eq (tgt := 23) hx hb (by omega) dJ0_indexOf_7cf53_4 (by decide) (fun c4 => False.elim (by omega)) (fun c4 => ?_)
  refine lv_aload_n hx hb dJ0_indexOf_7cf53_7 rfl (lv_at hl 0 rfl) ?_
  refine g_sval F w (i := i9) hi9 tb_398 dJ0_indexOf_7cf53_8 ?_
  refine lv_iload_n hx hb dJ0_indexOf_7cf53_11 rfl (lv_at hl 1 rfl) ?_
  refine lv_iload_n hx hb dJ0_indexOf_7cf53_12 rfl (lv_at hl 2 rfl) ?_
  refine lv_aload_n hx hb dJ0_indexOf_7cf53_13 rfl (lv_at hl 0 rfl) ?_
  refine k_Qi F w (As := []) (rest := [.int (zI x1), .int (zI x), .ref (D.2 201 i9)]) (i := i9) hi9 (q_J0_length_8abf5 (i9 := i9) hi9  hI) gv_J0_505 hv_J0_length_8abf5 ⟨(Nat.le_of_ble_eq_true rfl), (Nat.le_of_ble_eq_true rfl)⟩ hl.1 rfl (Nat.le_of_ble_eq_true rfl) ⟨Nat.zero_le _, Nat.zero_le _⟩ dJ0_indexOf_7cf53_14 (fun r5 N6 H locs hp w => ?_)
  obtain ⟨z7, rfl, bz7, xz7, hMN6⟩ := hp
  rw [hMN6] at w
  refine k_Si F w (As := [.ref (D.2 201 i9), .int (zI x), .int (zI x1), .int (zI z7)]) (rest := []) (q_J1_indexOf_4cfef (i9 := i9) hi9 (x := x) (by omega) (x1 := x1) (by omega) (x2 := z7) (by omega)  hI) gs_J0_637 hs_J1_indexOf_4cfef ⟨(Nat.le_of_ble_eq_true rfl), (Nat.le_of_ble_eq_true rfl)⟩ hl.1 rfl (Nat.le_of_ble_eq_true rfl) ⟨Nat.zero_le _, Nat.zero_le _⟩ dJ0_indexOf_7cf53_17 (fun r8 N9 H locs hp w => ?_)
  obtain ⟨z10, rfl, bz10, hMN9⟩ := hp
  rw [hMN9] at w
  refine lv_goto (tgt := 36) hx hb dJ0_indexOf_7cf53_20 (by decide) ?_
  rw [hQ]
  exact e_i F w hr hlocks ⟨_, rfl, (by omega), rfl⟩ dJ0_indexOf_7cf53_36
theorem dJ0_indexOf_0f7a4_0 : decode cJ0_indexOf_0f7a4 0 = .ok (.aload_n 0, 1) := udJ0_indexOf_0f7a4_0
theorem dJ0_indexOf_0f7a4_1 : decode cJ0_indexOf_0f7a4 1 = .ok (.iload_n 1, 1) := udJ0_indexOf_0f7a4_1
theorem dJ0_indexOf_0f7a4_2 : decode cJ0_indexOf_0f7a4 2 = .ok (.iconst 0, 1) := udJ0_indexOf_0f7a4_2
theorem dJ0_indexOf_0f7a4_3 : decode cJ0_indexOf_0f7a4 3 = .ok (.invokevirtual 633, 3) := udJ0_indexOf_0f7a4_3
theorem tk_J0_indexOf_7cf53 : Cond.code yJ0_indexOf_7cf53 cJ0_indexOf_7cf53 3 (some .int) ∈ TB := utk_J0_indexOf_7cf53
theorem gc_J0_indexOf_7cf53 : GoodIn TB (cw yJ0_indexOf_7cf53 cJ0_indexOf_7cf53 3 (some .int)) := goodIn_c2 tk_J0_indexOf_7cf53
theorem tb_426 : Cond.methodLink "java/lang/String" 633 yJ0_indexOf_7cf53 ∈ TB := utb_22
theorem tb_427 : Cond.instanceMethod yJ0_indexOf_7cf53 ∈ TB := utb_23
theorem tb_428 : Cond.selects "java/lang/String" yJ0_indexOf_7cf53 yJ0_indexOf_7cf53 ∈ TB := utb_24
theorem gv_J0_633 : GoodIn TB (wsV RJ0 633 RJ0 yJ0_indexOf_7cf53 (cw yJ0_indexOf_7cf53 cJ0_indexOf_7cf53 3 (some .int))) := goodIn_4 tb_426 tb_427 tb_428 tb_402 gc_J0_indexOf_7cf53
theorem hv_J0_indexOf_7cf53 : yJ0_indexOf_7cf53.cls = RJ0 ∧ yJ0_indexOf_7cf53.cls ≠ "java/lang/invoke/MethodHandle" ∧ yJ0_indexOf_7cf53.cls ≠ "java/lang/invoke/VarHandle" ∧ (parseMethodDescriptor yJ0_indexOf_7cf53.desc).map (fun d => d.parameters.length) = some 2 := uhv_J0_indexOf_7cf53
theorem dJ0_indexOf_0f7a4_6 : decode cJ0_indexOf_0f7a4 6 = .ok (.ireturn, 1) := udJ0_indexOf_0f7a4_6
set_option maxRecDepth 4000 in
theorem q_J0_indexOf_0f7a4 {l : Launch} {D : va_G} {B : Nat} {cy : Nat → ClassId} {M : Mem} {i9 : Nat} (hi9 : i9 < NSL) {x : Int} (hx : (-2147483648) ≤ x ∧ x ≤ 2147483647) (hI : Inv M) : Ci l D B cy yJ0_indexOf_0f7a4 cJ0_indexOf_0f7a4 2 (some .int) 3 70 [.ref (D.2 200 i9), .int (zI x)] M (fun r M1 => ∃ z : Int, r = zI z ∧ ((-1) ≤ z ∧ z ≤ 51) ∧ M1 = M) := by
  refine s_anyQ (by decide) (Nat.le_of_ble_eq_true rfl) ?_
  intro p e s m args below meth c ls Q F hr hlocks hQ w hl
  have F : CallFix p m c cJ0_indexOf_0f7a4 2 s args TB RJ0 := F
  have hx := F.1
  have hb := F.2.1
  have hl : lv_has ls 2 [(0, .ref (D.2 200 i9)), (1, .int (zI x))] := hl
  have hsn_i9 := sl_len hi9
  refine lv_aload_n hx hb dJ0_indexOf_0f7a4_0 rfl (lv_at hl 0 rfl) ?_
  refine lv_iload_n hx hb dJ0_indexOf_0f7a4_1 rfl (lv_at hl 1 rfl) ?_
  refine lv_iconst (v := zI 0) hx hb dJ0_indexOf_0f7a4_2 rfl ?_
  refine k_Qi F w (As := [.int (zI x), .int (zI 0)]) (rest := []) (i := i9) hi9 (q_J0_indexOf_7cf53 (i9 := i9) hi9 (x := x) (by omega) (x1 := 0) (by omega)  hI) gv_J0_633 hv_J0_indexOf_7cf53 ⟨(Nat.le_of_ble_eq_true rfl), (Nat.le_of_ble_eq_true rfl)⟩ hl.1 rfl (Nat.le_of_ble_eq_true rfl) ⟨Nat.zero_le _, Nat.zero_le _⟩ dJ0_indexOf_0f7a4_3 (fun r1 N2 H locs hp w => ?_)
  obtain ⟨z3, rfl, bz3, hMN2⟩ := hp
  rw [hMN2] at w
  rw [hQ]
  exact e_i F w hr hlocks ⟨_, rfl, (by omega), rfl⟩ dJ0_indexOf_0f7a4_6
theorem dJ7_fill_53178_0 : decode cJ7_fill_53178 0 = .ok (.iconst 0, 1) := rdJ7_fill_53178_0
theorem dJ7_fill_53178_1 : decode cJ7_fill_53178 1 = .ok (.istore_n 2, 1) := rdJ7_fill_53178_1
theorem dJ7_fill_53178_2 : decode cJ7_fill_53178 2 = .ok (.aload_n 0, 1) := rdJ7_fill_53178_2
theorem dJ7_fill_53178_3 : decode cJ7_fill_53178 3 = .ok (.arraylength, 1) := rdJ7_fill_53178_3
theorem dJ7_fill_53178_4 : decode cJ7_fill_53178 4 = .ok (.istore_n 3, 1) := rdJ7_fill_53178_4
theorem dJ7_fill_53178_5 : decode cJ7_fill_53178 5 = .ok (.iload_n 2, 1) := rdJ7_fill_53178_5
theorem dJ7_fill_53178_6 : decode cJ7_fill_53178 6 = .ok (.iload_n 3, 1) := rdJ7_fill_53178_6
theorem dJ7_fill_53178_7 : decode cJ7_fill_53178 7 = .ok (.if_icmp .ge 13, 3) := rdJ7_fill_53178_7
theorem dJ7_fill_53178_10 : decode cJ7_fill_53178 10 = .ok (.aload_n 0, 1) := rdJ7_fill_53178_10
theorem dJ7_fill_53178_11 : decode cJ7_fill_53178 11 = .ok (.iload_n 2, 1) := rdJ7_fill_53178_11
theorem dJ7_fill_53178_12 : decode cJ7_fill_53178 12 = .ok (.iload_n 1, 1) := rdJ7_fill_53178_12
theorem dJ7_fill_53178_13 : decode cJ7_fill_53178 13 = .ok (.iastore, 1) := rdJ7_fill_53178_13
theorem dJ7_fill_53178_14 : decode cJ7_fill_53178 14 = .ok (.iinc 2 1, 3) := rdJ7_fill_53178_14
theorem dJ7_fill_53178_17 : decode cJ7_fill_53178 17 = .ok (.goto (-12), 3) := rdJ7_fill_53178_17
theorem dJ7_fill_53178_20 : decode cJ7_fill_53178 20 = .ok (.return_, 1) := rdJ7_fill_53178_20
set_option maxRecDepth 4000 in
theorem q_J7_fill_53178 {l : Launch} {D : va_G} {B : Nat} {cy : Nat → ClassId} {M : Mem} {a1 : Nat} (hka1 : kd a1 = (22, 8, 0)) (hva1 : ∀ k, iv a1 k = (-2, 99)) (hla1 : a1 < 146) {x : Int} (hx : (-2) ≤ x ∧ x ≤ 99) (hI : Inv M) : Cv l D B cy yJ7_fill_53178 cJ7_fill_53178 4 0 0 [.ref (B + a1), .int (zI x)] M (fun M1 => Inv M1 ∧ Fr (fun b9 k9 => b9 = a1) M1 M) := by
  refine s_anyQ (by decide) (Nat.le_of_ble_eq_true rfl) ?_
  intro p e s m args below meth c ls Q F hr hlocks hQ w hl
  have F : CallFix p m c cJ7_fill_53178 4 s args TB RJ7 := F
  have hx := F.1
  have hb := F.2.1
  have hl : lv_has ls 4 [(0, .ref (B + a1)), (1, .int (zI x))] := hl
  have hF : Fr (fun b9 k9 => b9 = a1) M M := Fr.rf
  refine lv_iconst (v := zI 0) hx hb dJ7_fill_53178_0 rfl ?_
  refine lv_istore_n (lv' := [(2, .int (zI 0)), (0, .ref (B + a1)), (1, .int (zI x))]) hx hb dJ7_fill_53178_1 rfl hl (by decide) rfl (fun ls hl => ?_)
  refine lv_aload_n hx hb dJ7_fill_53178_2 rfl (lv_at hl 1 rfl) ?_
  refine g_alen F w (a := a1) (t := 2) (kd_lt hka1 (by decide)) (by simp only [shp, hka1]; rfl) rfl (v := zI 8) rfl dJ7_fill_53178_3 ?_
  refine lv_istore_n (lv' := [(3, .int (zI 8)), (2, .int (zI 0)), (0, .ref (B + a1)), (1, .int (zI x))]) hx hb dJ7_fill_53178_4 rfl hl (by decide) rfl (fun ls hl => ?_)
  have lp5 : ∀ (f : Nat) (v2_5 : Int)  (NL5 : Mem), (0 ≤ v2_5 ∧ v2_5 ≤ 8) → Inv NL5 → Fr (fun b9 k9 => b9 = a1) NL5 M → (Int.toNat (8 - v2_5) < f) → ∀ (H : Heap) (locs : List Loc) (ls : Array Slot), Wd D B cy s s.heap NL5 H locs → lv_has ls 4 [(3, .int (zI 8)), (2, .int (zI v2_5)), (0, .ref (B + a1)), (1, .int (zI x))] → W p l e (rmm 0 0) s m args below meth c H locs 0 0 Q (F0 m 5 ls []) := by
    intro f
    induction f with
    | zero => intros; omega
    | succ f ih5 =>
      intro v2_5  NL5 iv2_5 hIL5 hFL5 hf5 H locs ls w hl
      refine lv_iload_n hx hb dJ7_fill_53178_5 rfl (lv_at hl 1 rfl) ?_
      refine lv_iload_n hx hb dJ7_fill_53178_6 rfl (lv_at hl 0 rfl) ?_
      refine z_icmp_ge (tgt := 20) hx hb (by omega) (by omega) dJ7_fill_53178_7 (by decide) (fun c1 => ?_) (fun c1 => ?_)
      · rw [hQ]
        exact e_v F w hr hlocks ⟨hIL5, hFL5⟩ dJ7_fill_53178_20
      · refine lv_aload_n hx hb dJ7_fill_53178_10 rfl (lv_at hl 2 rfl) ?_
        refine lv_iload_n hx hb dJ7_fill_53178_11 rfl (lv_at hl 1 rfl) ?_
        refine lv_iload_n hx hb dJ7_fill_53178_12 rfl (lv_at hl 3 rfl) ?_
        refine g_iast F w (a := a1) hka1 (j := (Int.toNat v2_5)) (ix_z (by omega) (by omega)) (by omega) dJ7_fill_53178_13 (fun H locs w => ?_)
        refine z_iinc (v := (v2_5 + 1)) (lv' := [(2, .int (zI (v2_5 + 1))), (3, .int (zI 8)), (0, .ref (B + a1)), (1, .int (zI x))]) hx hb dJ7_fill_53178_14 hl (k := 1) rfl (by omega) (by decide) rfl (fun ls hl => ?_)
        refine lv_goto (tgt := 5) hx hb dJ7_fill_53178_17 (by decide) ?_
        exact ih5 (v2_5 + 1) (st NL5 a1 (Int.toNat v2_5) (zI x)) (by omega)    (Inv.to hIL5 (a := a1) (k := (Int.toNat v2_5)) (x := x) (hva1 _) (by omega)) (Fr.to hFL5 (by first | omega | (dsimp only; first | done | omega))) (by omega) _ _ _ w (lv_sub hl [1, 0, 2, 3] rfl)
  exact lp5 _ 0 M (by omega) hI hF (Nat.lt_succ_self _) _ _ _ w (lv_sub hl [0, 1, 2, 3] rfl)
theorem dX4_clear_0 : decode cX4_clear 0 = .ok (.aload_n 0, 1) := rdX4_clear_0
theorem dX4_clear_1 : decode cX4_clear 1 = .ok (.getfield 9, 3) := rdX4_clear_1
theorem dX4_clear_4 : decode cX4_clear 4 = .ok (.bipush (-2), 2) := rdX4_clear_4
theorem dX4_clear_6 : decode cX4_clear 6 = .ok (.invokestatic 15, 3) := rdX4_clear_6
theorem tk_J7_fill_53178 : Cond.code yJ7_fill_53178 cJ7_fill_53178 4 none ∈ TB := rtk_J7_fill_53178
theorem gc_J7_fill_53178 : GoodIn TB (cw yJ7_fill_53178 cJ7_fill_53178 4 none) := goodIn_c2 tk_J7_fill_53178
theorem tb_429 : Cond.methodLink "ToneLines$Rule" 15 yJ7_fill_53178 ∈ TB := rtb_59
theorem tb_430 : Cond.static yJ7_fill_53178 ∈ TB := rtb_60
theorem tb_431 : Cond.initialized "java/util/Arrays" ∈ TB := rtb_61
theorem gs_X4_15 : GoodIn TB (va_wsS RX4 15 yJ7_fill_53178 (cw yJ7_fill_53178 cJ7_fill_53178 4 none)) := goodIn_3 tb_429 tb_430 tb_431 gc_J7_fill_53178
theorem hs_J7_fill_53178 : yJ7_fill_53178.cls ≠ "java/lang/invoke/MethodHandle" ∧ yJ7_fill_53178.cls ≠ "java/lang/invoke/VarHandle" ∧ (parseMethodDescriptor yJ7_fill_53178.desc).map (fun d => d.parameters.length) = some 2 := rhs_J7_fill_53178
theorem dX4_clear_9 : decode cX4_clear 9 = .ok (.aload_n 0, 1) := rdX4_clear_9
theorem dX4_clear_10 : decode cX4_clear 10 = .ok (.getfield 9, 3) := rdX4_clear_10
theorem dX4_clear_13 : decode cX4_clear 13 = .ok (.iconst 1, 1) := rdX4_clear_13
theorem dX4_clear_14 : decode cX4_clear 14 = .ok (.iconst 0, 1) := rdX4_clear_14
theorem dX4_clear_15 : decode cX4_clear 15 = .ok (.iastore, 1) := rdX4_clear_15
theorem dX4_clear_16 : decode cX4_clear 16 = .ok (.aload_n 0, 1) := rdX4_clear_16
theorem dX4_clear_17 : decode cX4_clear 17 = .ok (.getfield 9, 3) := rdX4_clear_17
theorem dX4_clear_20 : decode cX4_clear 20 = .ok (.bipush 6, 2) := rdX4_clear_20
theorem dX4_clear_22 : decode cX4_clear 22 = .ok (.iconst 0, 1) := rdX4_clear_22
theorem dX4_clear_23 : decode cX4_clear 23 = .ok (.iastore, 1) := rdX4_clear_23
theorem dX4_clear_24 : decode cX4_clear 24 = .ok (.return_, 1) := rdX4_clear_24
set_option maxRecDepth 4000 in
theorem q_X4_clear {l : Launch} {D : va_G} {B : Nat} {cy : Nat → ClassId} {M : Mem} {u1 : Nat} (hku1 : kd u1 = (4, 0, 0)) (hI : Inv M) : Cv l D B cy yX4_clear cX4_clear 1 1 23 [.ref (B + u1)] M (fun M1 => Inv M1 ∧ Fr (fun b9 k9 => b9 = (u1 + 1)) M1 M) := by
  refine s_anyQ (by decide) (Nat.le_of_ble_eq_true rfl) ?_
  intro p e s m args below meth c ls Q F hr hlocks hQ w hl
  have F : CallFix p m c cX4_clear 1 s args TB RX4 := F
  have hx := F.1
  have hb := F.2.1
  have hl : lv_has ls 1 [(0, .ref (B + u1))] := hl
  have hF : Fr (fun b9 k9 => b9 = (u1 + 1)) M M := Fr.rf
  refine lv_aload_n hx hb dX4_clear_0 rfl (lv_at hl 0 rfl) ?_
  refine f_4_0 F w (a := u1) hku1 tb_49 dX4_clear_1 ?_
  refine lv_bipush (v := zI (-2)) hx hb dX4_clear_4 (by decide) ?_
  refine k_Sv F w (As := [.ref (B + (u1 + 1)), .int (zI (-2))]) (rest := []) (q_J7_fill_53178 (a1 := (u1 + 1)) (iv_u hku1).2.2 (fun _ => (iv_up hku1 _)) (by have := lt_u hku1; omega) (x := (-2)) (by omega)  hI) gs_X4_15 hs_J7_fill_53178 ⟨(Nat.le_of_ble_eq_true rfl), (Nat.le_of_ble_eq_true rfl)⟩ hl.1 rfl (Nat.le_of_ble_eq_true rfl) ⟨Nat.zero_le _, Nat.zero_le _⟩ dX4_clear_6 (fun N2 H locs hp w => ?_)
  obtain ⟨hIN2, hFN2⟩ := hp
  have hGN2 := Fr.tr hF hFN2 (S := (fun b9 k9 => b9 = (u1 + 1))) (fun b k h => by (try dsimp only at h ⊢); (repeat' (refine Or.elim h ?_ ?_ <;> clear h <;> intro h)); all_goals first | (obtain ⟨rfl, rfl⟩ := h; decide) | (subst h; decide) | omega)
  refine lv_aload_n hx hb dX4_clear_9 rfl (lv_at hl 0 rfl) ?_
  refine f_4_0 F w (a := u1) hku1 tb_49 dX4_clear_10 ?_
  refine lv_iconst (v := zI 1) hx hb dX4_clear_13 rfl ?_
  refine lv_iconst (v := zI 0) hx hb dX4_clear_14 rfl ?_
  refine g_iast F w (a := (u1 + 1)) (iv_u hku1).2.2 (j := 1) ⟨by decide, by decide⟩ (by omega) dX4_clear_15 (fun H locs w => ?_)
  refine lv_aload_n hx hb dX4_clear_16 rfl (lv_at hl 0 rfl) ?_
  refine f_4_0 F w (a := u1) hku1 tb_49 dX4_clear_17 ?_
  refine lv_bipush (v := zI 6) hx hb dX4_clear_20 (by decide) ?_
  refine lv_iconst (v := zI 0) hx hb dX4_clear_22 rfl ?_
  refine g_iast F w (a := (u1 + 1)) (iv_u hku1).2.2 (j := 6) ⟨by decide, by decide⟩ (by omega) dX4_clear_23 (fun H locs w => ?_)
  rw [hQ]
  exact e_v F w hr hlocks ⟨(Inv.to (Inv.to hIN2 (a := (u1 + 1)) (k := 1) (x := 0) (iv_up hku1 _) (by omega)) (a := (u1 + 1)) (k := 6) (x := 0) (iv_up hku1 _) (by omega)), (Fr.to (Fr.to hGN2 (by first | omega | (dsimp only; first | done | omega))) (by first | omega | (dsimp only; first | done | omega)))⟩ dX4_clear_24
theorem dX10_readColon_0 : decode cX10_readColon 0 = .ok (.aload_n 0, 1) := udX10_readColon_0
theorem dX10_readColon_1 : decode cX10_readColon 1 = .ok (.aload_n 0, 1) := udX10_readColon_1
theorem dX10_readColon_2 : decode cX10_readColon 2 = .ok (.getfield 15, 3) := udX10_readColon_2
theorem tb_432 : Cond.fieldLink "ToneLines$WordReader" 15 "ToneLines$WordReader" "tape" "LToneLines$Tape;" ∈ TB := utb_25
theorem dX10_readColon_5 : decode cX10_readColon 5 = .ok (.aload_n 0, 1) := udX10_readColon_5
theorem dX10_readColon_6 : decode cX10_readColon 6 = .ok (.getfield 9, 3) := udX10_readColon_6
theorem tb_433 : Cond.fieldLink "ToneLines$WordReader" 9 "ToneLines$WordReader" "at" "I" ∈ TB := utb_26
theorem dX10_readColon_9 : decode cX10_readColon 9 = .ok (.invokevirtual 34, 3) := udX10_readColon_9
theorem tk_X8_skipBlanks : Cond.code yX8_skipBlanks cX8_skipBlanks 3 (some .int) ∈ TB := rtk_X8_skipBlanks
theorem gc_X8_skipBlanks : GoodIn TB (cw yX8_skipBlanks cX8_skipBlanks 3 (some .int)) := goodIn_c2 tk_X8_skipBlanks
theorem tb_434 : Cond.methodLink "ToneLines$WordReader" 34 yX8_skipBlanks ∈ TB := utb_33
theorem tb_435 : Cond.instanceMethod yX8_skipBlanks ∈ TB := rtb_31
theorem tb_436 : Cond.selects "ToneLines$Tape" yX8_skipBlanks yX8_skipBlanks ∈ TB := rtb_32
theorem gv_X10_34 : GoodIn TB (wsV RX10 34 RX8 yX8_skipBlanks (cw yX8_skipBlanks cX8_skipBlanks 3 (some .int))) := goodIn_4 tb_434 tb_435 tb_436 tb_297 gc_X8_skipBlanks
theorem hv_X8_skipBlanks : yX8_skipBlanks.cls = RX8 ∧ yX8_skipBlanks.cls ≠ "java/lang/invoke/MethodHandle" ∧ yX8_skipBlanks.cls ≠ "java/lang/invoke/VarHandle" ∧ (parseMethodDescriptor yX8_skipBlanks.desc).map (fun d => d.parameters.length) = some 1 := rhv_X8_skipBlanks
theorem dX10_readColon_12 : decode cX10_readColon 12 = .ok (.putfield 9, 3) := udX10_readColon_12
theorem dX10_readColon_15 : decode cX10_readColon 15 = .ok (.aload_n 0, 1) := udX10_readColon_15
theorem dX10_readColon_16 : decode cX10_readColon 16 = .ok (.getfield 15, 3) := udX10_readColon_16
theorem dX10_readColon_19 : decode cX10_readColon 19 = .ok (.aload_n 0, 1) := udX10_readColon_19
theorem dX10_readColon_20 : decode cX10_readColon 20 = .ok (.getfield 9, 3) := udX10_readColon_20
theorem dX10_readColon_23 : decode cX10_readColon 23 = .ok (.invokevirtual 43, 3) := udX10_readColon_23
theorem tk_X8_signAt : Cond.code yX8_signAt cX8_signAt 2 (some .int) ∈ TB := rtk_X8_signAt
theorem gc_X8_signAt : GoodIn TB (cw yX8_signAt cX8_signAt 2 (some .int)) := goodIn_c2 tk_X8_signAt
theorem tb_437 : Cond.methodLink "ToneLines$WordReader" 43 yX8_signAt ∈ TB := utb_27
theorem tb_438 : Cond.instanceMethod yX8_signAt ∈ TB := rtb_25
theorem tb_439 : Cond.selects "ToneLines$Tape" yX8_signAt yX8_signAt ∈ TB := rtb_26
theorem gv_X10_43 : GoodIn TB (wsV RX10 43 RX8 yX8_signAt (cw yX8_signAt cX8_signAt 2 (some .int))) := goodIn_4 tb_437 tb_438 tb_439 tb_297 gc_X8_signAt
theorem hv_X8_signAt : yX8_signAt.cls = RX8 ∧ yX8_signAt.cls ≠ "java/lang/invoke/MethodHandle" ∧ yX8_signAt.cls ≠ "java/lang/invoke/VarHandle" ∧ (parseMethodDescriptor yX8_signAt.desc).map (fun d => d.parameters.length) = some 1 := rhv_X8_signAt
theorem dX10_readColon_26 : decode cX10_readColon 26 = .ok (.bipush 58, 2) := udX10_readColon_26
theorem dX10_readColon_28 : decode cX10_readColon 28 = .ok (.if_icmp .eq 5, 3) := udX10_readColon_28
theorem dX10_readColon_33 : decode cX10_readColon 33 = .ok (.aload_n 0, 1) := udX10_readColon_33
theorem dX10_readColon_34 : decode cX10_readColon 34 = .ok (.aload_n 0, 1) := udX10_readColon_34
theorem dX10_readColon_35 : decode cX10_readColon 35 = .ok (.getfield 15, 3) := udX10_readColon_35
theorem dX10_readColon_38 : decode cX10_readColon 38 = .ok (.aload_n 0, 1) := udX10_readColon_38
theorem dX10_readColon_39 : decode cX10_readColon 39 = .ok (.getfield 9, 3) := udX10_readColon_39
theorem dX10_readColon_42 : decode cX10_readColon 42 = .ok (.iconst 1, 1) := udX10_readColon_42
theorem dX10_readColon_43 : decode cX10_readColon 43 = .ok (.iadd, 1) := udX10_readColon_43
theorem dX10_readColon_44 : decode cX10_readColon 44 = .ok (.invokevirtual 34, 3) := udX10_readColon_44
theorem dX10_readColon_47 : decode cX10_readColon 47 = .ok (.putfield 9, 3) := udX10_readColon_47
theorem dX10_readColon_50 : decode cX10_readColon 50 = .ok (.iconst 1, 1) := udX10_readColon_50
theorem dX10_readColon_51 : decode cX10_readColon 51 = .ok (.ireturn, 1) := udX10_readColon_51
theorem dX10_readColon_31 : decode cX10_readColon 31 = .ok (.iconst 0, 1) := udX10_readColon_31
theorem dX10_readColon_32 : decode cX10_readColon 32 = .ok (.ireturn, 1) := udX10_readColon_32
set_option maxRecDepth 4000 in
theorem q_X10_readColon {l : Launch} {D : va_G} {B : Nat} {cy : Nat → ClassId} {M : Mem}  (hI : Inv M) : Ci l D B cy yX10_readColon cX10_readColon 1 (some .boolean) 1 22 [.ref (B + 3)] M (fun r M1 => ∃ z : Int, r = zI z ∧ (0 ≤ z ∧ z ≤ 1) ∧ Inv M1 ∧ Fr (fun b9 k9 => (b9 = 3 ∧ k9 = 1)) M1 M) := by
  refine s_anyQ (by decide) (Nat.le_of_ble_eq_true rfl) ?_
  intro p e s m args below meth c ls Q F hr hlocks hQ w hl
  have F : CallFix p m c cX10_readColon 1 s args TB RX10 := F
  have hx := F.1
  have hb := F.2.1
  have hl : lv_has ls 1 [(0, .ref (B + 3))] := hl
  have hF : Fr (fun b9 k9 => (b9 = 3 ∧ k9 = 1)) M M := Fr.rf
  refine lv_aload_n hx hb dX10_readColon_0 rfl (lv_at hl 0 rfl) ?_
  refine lv_aload_n hx hb dX10_readColon_1 rfl (lv_at hl 0 rfl) ?_
  refine f_10_0 F w (a := 3) rfl tb_432 dX10_readColon_2 ?_
  refine lv_aload_n hx hb dX10_readColon_5 rfl (lv_at hl 0 rfl) ?_
  refine f_10_1 F w (a := 3) rfl tb_433 dX10_readColon_6 ?_
  obtain ⟨z1, bz1, ez1⟩ := Inv.ld (k := 1) hI (show iv 3 1 = ((-2147483648), 2147483647) from rfl) (show 3 < 146 by decide)
  refine r_val ez1 ?_
  refine k_Vi F w (As := [.int (zI z1)]) (rest := [.ref (B + 3)]) (a := 1) (kd_lt (a := 1) (show kd 1 = (8, 0, 0) from rfl) (by decide)) (sh_8 rfl _ _) rfl (q_X8_skipBlanks (x := z1) (by omega)  hI) gv_X10_34 hv_X8_skipBlanks ⟨(Nat.le_of_ble_eq_true rfl), (Nat.le_of_ble_eq_true rfl)⟩ hl.1 rfl (Nat.le_of_ble_eq_true rfl) ⟨Nat.zero_le _, Nat.zero_le _⟩ dX10_readColon_9 (fun r2 N3 H locs hp w => ?_)
  obtain ⟨z4, rfl, bz4, xz4, hMN3⟩ := hp
  rw [hMN3] at w
  refine u_10_1 F w (a := 3) rfl tb_433 dX10_readColon_12 (fun H locs w => ?_)
  refine lv_aload_n hx hb dX10_readColon_15 rfl (lv_at hl 0 rfl) ?_
  refine f_10_0 F w (a := 3) rfl tb_432 dX10_readColon_16 ?_
  refine lv_aload_n hx hb dX10_readColon_19 rfl (lv_at hl 0 rfl) ?_
  refine f_10_1 F w (a := 3) rfl tb_433 dX10_readColon_20 ?_
  refine r_val (v := zI z4) (st_at) ?_
  refine k_Vi F w (As := [.int (zI z4)]) (rest := []) (a := 1) (kd_lt (a := 1) (show kd 1 = (8, 0, 0) from rfl) (by decide)) (sh_8 rfl _ _) rfl (q_X8_signAt (x := z4) (by omega)  (Inv.to hI (a := 3) (k := 1) (x := z4) (show iv 3 1 = ((-2147483648), 2147483647) from rfl) (by omega))) gv_X10_43 hv_X8_signAt ⟨(Nat.le_of_ble_eq_true rfl), (Nat.le_of_ble_eq_true rfl)⟩ hl.1 rfl (Nat.le_of_ble_eq_true rfl) ⟨Nat.zero_le _, Nat.zero_le _⟩ dX10_readColon_23 (fun r5 N6 H locs hp w => ?_)
  obtain ⟨z7, rfl, bz7, xz7, hMN6⟩ := hp
  rw [hMN6] at w
  refine lv_bipush (v := zI 58) hx hb dX10_readColon_26 (by decide) ?_
  refine z_icmp_eq (tgt := 33) hx hb (by omega) (by omega) dX10_readColon_28 (by decide) (fun c8 => ?_) (fun c8 => ?_)
  · refine lv_aload_n hx hb dX10_readColon_33 rfl (lv_at hl 0 rfl) ?_
    refine lv_aload_n hx hb dX10_readColon_34 rfl (lv_at hl 0 rfl) ?_
    refine f_10_0 F w (a := 3) rfl tb_432 dX10_readColon_35 ?_
    refine lv_aload_n hx hb dX10_readColon_38 rfl (lv_at hl 0 rfl) ?_
    refine f_10_1 F w (a := 3) rfl tb_433 dX10_readColon_39 ?_
    refine r_val (v := zI z4) (st_at) ?_
    refine lv_iconst (v := zI 1) hx hb dX10_readColon_42 rfl ?_
    refine z_iadd (z := (z4 + 1)) hx hb dX10_readColon_43 (by omega) ?_
    refine k_Vi F w (As := [.int (zI (z4 + 1))]) (rest := [.ref (B + 3)]) (a := 1) (kd_lt (a := 1) (show kd 1 = (8, 0, 0) from rfl) (by decide)) (sh_8 rfl _ _) rfl (q_X8_skipBlanks (x := (z4 + 1)) (by omega)  (Inv.to hI (a := 3) (k := 1) (x := z4) (show iv 3 1 = ((-2147483648), 2147483647) from rfl) (by omega))) gv_X10_34 hv_X8_skipBlanks ⟨(Nat.le_of_ble_eq_true rfl), (Nat.le_of_ble_eq_true rfl)⟩ hl.1 rfl (Nat.le_of_ble_eq_true rfl) ⟨Nat.zero_le _, Nat.zero_le _⟩ dX10_readColon_44 (fun r9 N10 H locs hp w => ?_)
    obtain ⟨z11, rfl, bz11, xz11, hMN10⟩ := hp
    rw [hMN10] at w
    refine u_10_1 F w (a := 3) rfl tb_433 dX10_readColon_47 (fun H locs w => ?_)
    refine lv_iconst (v := zI 1) hx hb dX10_readColon_50 rfl ?_
    rw [hQ]
    exact e_z F w hr hlocks (nar_z (by omega)) ⟨_, rfl, (by omega), (Inv.to (Inv.to hI (a := 3) (k := 1) (x := z4) (show iv 3 1 = ((-2147483648), 2147483647) from rfl) (by omega)) (a := 3) (k := 1) (x := z11) (show iv 3 1 = ((-2147483648), 2147483647) from rfl) (by omega)), (Fr.to (Fr.to hF (by first | omega | (dsimp only; first | done | omega))) (by first | omega | (dsimp only; first | done | omega)))⟩ dX10_readColon_51
  · refine lv_iconst (v := zI 0) hx hb dX10_readColon_31 rfl ?_
    rw [hQ]
    exact e_z F w hr hlocks (nar_z (by omega)) ⟨_, rfl, (by omega), (Inv.to hI (a := 3) (k := 1) (x := z4) (show iv 3 1 = ((-2147483648), 2147483647) from rfl) (by omega)), (Fr.to hF (by first | omega | (dsimp only; first | done | omega)))⟩ dX10_readColon_32
theorem dX10_readNumber_0 : decode cX10_readNumber 0 = .ok (.aload_n 0, 1) := udX10_readNumber_0
theorem dX10_readNumber_1 : decode cX10_readNumber 1 = .ok (.getfield 15, 3) := udX10_readNumber_1
theorem dX10_readNumber_4 : decode cX10_readNumber 4 = .ok (.aload_n 0, 1) := udX10_readNumber_4
theorem dX10_readNumber_5 : decode cX10_readNumber 5 = .ok (.getfield 9, 3) := udX10_readNumber_5
theorem dX10_readNumber_8 : decode cX10_readNumber 8 = .ok (.invokevirtual 43, 3) := udX10_readNumber_8
theorem dX10_readNumber_11 : decode cX10_readNumber 11 = .ok (.invokestatic 82, 3) := udX10_readNumber_11
theorem tk_X11_digitOf : Cond.code yX11_digitOf cX11_digitOf 1 (some .int) ∈ TB := rtk_X11_digitOf
theorem gc_X11_digitOf : GoodIn TB (cw yX11_digitOf cX11_digitOf 1 (some .int)) := goodIn_c2 tk_X11_digitOf
theorem hs_X11_digitOf : yX11_digitOf.cls ≠ "java/lang/invoke/MethodHandle" ∧ yX11_digitOf.cls ≠ "java/lang/invoke/VarHandle" ∧ (parseMethodDescriptor yX11_digitOf.desc).map (fun d => d.parameters.length) = some 1 := rhs_X11_digitOf
theorem tb_440 : Cond.static yX11_digitOf ∈ TB := rtb_51
theorem dX10_readNumber_14 : decode cX10_readNumber 14 = .ok (.istore_n 2, 1) := udX10_readNumber_14
theorem dX10_readNumber_15 : decode cX10_readNumber 15 = .ok (.iload_n 2, 1) := udX10_readNumber_15
theorem dX10_readNumber_16 : decode cX10_readNumber 16 = .ok (.iconst (-1), 1) := udX10_readNumber_16
theorem dX10_readNumber_17 : decode cX10_readNumber 17 = .ok (.if_icmp .ne 5, 3) := udX10_readNumber_17
theorem dX10_readNumber_22 : decode cX10_readNumber 22 = .ok (.aload_n 0, 1) := udX10_readNumber_22
theorem dX10_readNumber_23 : decode cX10_readNumber 23 = .ok (.getfield 15, 3) := udX10_readNumber_23
theorem dX10_readNumber_26 : decode cX10_readNumber 26 = .ok (.aload_n 0, 1) := udX10_readNumber_26
theorem dX10_readNumber_27 : decode cX10_readNumber 27 = .ok (.getfield 9, 3) := udX10_readNumber_27
theorem dX10_readNumber_30 : decode cX10_readNumber 30 = .ok (.iconst 1, 1) := udX10_readNumber_30
theorem dX10_readNumber_31 : decode cX10_readNumber 31 = .ok (.iadd, 1) := udX10_readNumber_31
theorem dX10_readNumber_32 : decode cX10_readNumber 32 = .ok (.invokevirtual 43, 3) := udX10_readNumber_32
theorem dX10_readNumber_35 : decode cX10_readNumber 35 = .ok (.invokestatic 82, 3) := udX10_readNumber_35
theorem dX10_readNumber_38 : decode cX10_readNumber 38 = .ok (.istore_n 3, 1) := udX10_readNumber_38
theorem dX10_readNumber_39 : decode cX10_readNumber 39 = .ok (.iload_n 3, 1) := udX10_readNumber_39
theorem dX10_readNumber_40 : decode cX10_readNumber 40 = .ok (.iconst (-1), 1) := udX10_readNumber_40
theorem dX10_readNumber_41 : decode cX10_readNumber 41 = .ok (.if_icmp .ne 7, 3) := udX10_readNumber_41
theorem dX10_readNumber_48 : decode cX10_readNumber 48 = .ok (.iload_n 2, 1) := udX10_readNumber_48
theorem dX10_readNumber_49 : decode cX10_readNumber 49 = .ok (.bipush 10, 2) := udX10_readNumber_49
theorem dX10_readNumber_51 : decode cX10_readNumber 51 = .ok (.imul, 1) := udX10_readNumber_51
theorem dX10_readNumber_52 : decode cX10_readNumber 52 = .ok (.iload_n 3, 1) := udX10_readNumber_52
theorem dX10_readNumber_53 : decode cX10_readNumber 53 = .ok (.iadd, 1) := udX10_readNumber_53
theorem dX10_readNumber_54 : decode cX10_readNumber 54 = .ok (.istore 4, 2) := udX10_readNumber_54
theorem dX10_readNumber_56 : decode cX10_readNumber 56 = .ok (.iload 4, 2) := udX10_readNumber_56
theorem dX10_readNumber_58 : decode cX10_readNumber 58 = .ok (.iload_n 1, 1) := udX10_readNumber_58
theorem dX10_readNumber_59 : decode cX10_readNumber 59 = .ok (.if_icmp .lt 5, 3) := udX10_readNumber_59
theorem dX10_readNumber_64 : decode cX10_readNumber 64 = .ok (.aload_n 0, 1) := udX10_readNumber_64
theorem dX10_readNumber_65 : decode cX10_readNumber 65 = .ok (.dup, 1) := udX10_readNumber_65
theorem dX10_readNumber_66 : decode cX10_readNumber 66 = .ok (.getfield 9, 3) := udX10_readNumber_66
theorem dX10_readNumber_69 : decode cX10_readNumber 69 = .ok (.iload_n 3, 1) := udX10_readNumber_69
theorem dX10_readNumber_70 : decode cX10_readNumber 70 = .ok (.iconst (-1), 1) := udX10_readNumber_70
theorem dX10_readNumber_71 : decode cX10_readNumber 71 = .ok (.if_icmp .ne 7, 3) := udX10_readNumber_71
theorem dX10_readNumber_78 : decode cX10_readNumber 78 = .ok (.iconst 2, 1) := udX10_readNumber_78
theorem dX10_readNumber_79 : decode cX10_readNumber 79 = .ok (.iadd, 1) := udX10_readNumber_79
theorem dX10_readNumber_80 : decode cX10_readNumber 80 = .ok (.putfield 9, 3) := udX10_readNumber_80
theorem dX10_readNumber_83 : decode cX10_readNumber 83 = .ok (.iload 4, 2) := udX10_readNumber_83
theorem dX10_readNumber_85 : decode cX10_readNumber 85 = .ok (.ireturn, 1) := udX10_readNumber_85
theorem dX10_readNumber_62 : decode cX10_readNumber 62 = .ok (.iconst (-1), 1) := udX10_readNumber_62
theorem dX10_readNumber_63 : decode cX10_readNumber 63 = .ok (.ireturn, 1) := udX10_readNumber_63
theorem dX10_readNumber_44 : decode cX10_readNumber 44 = .ok (.iload_n 2, 1) := udX10_readNumber_44
theorem dX10_readNumber_45 : decode cX10_readNumber 45 = .ok (.goto 9, 3) := udX10_readNumber_45
theorem dX10_readNumber_74 : decode cX10_readNumber 74 = .ok (.iconst 1, 1) := udX10_readNumber_74
theorem dX10_readNumber_75 : decode cX10_readNumber 75 = .ok (.goto 4, 3) := udX10_readNumber_75
theorem dX10_readNumber_20 : decode cX10_readNumber 20 = .ok (.iconst (-1), 1) := udX10_readNumber_20
theorem dX10_readNumber_21 : decode cX10_readNumber 21 = .ok (.ireturn, 1) := udX10_readNumber_21
set_option maxRecDepth 4000 in
theorem q_X10_readNumber {l : Launch} {D : va_G} {B : Nat} {cy : Nat → ClassId} {M : Mem} {x : Int} (hx : (-2147483648) ≤ x ∧ x ≤ 2147483647) (hI : Inv M) : Ci l D B cy yX10_readNumber cX10_readNumber 5 (some .int) 1 21 [.ref (B + 3), .int (zI x)] M (fun r M1 => ∃ z : Int, r = zI z ∧ ((-1) ≤ z ∧ z ≤ 99) ∧ Inv M1 ∧ Fr (fun b9 k9 => (b9 = 3 ∧ k9 = 1)) M1 M) := by
  refine s_anyQ (by decide) (Nat.le_of_ble_eq_true rfl) ?_
  intro p e s m args below meth c ls Q F hr hlocks hQ w hl
  have F : CallFix p m c cX10_readNumber 5 s args TB RX10 := F
  have hx := F.1
  have hb := F.2.1
  have hl : lv_has ls 5 [(0, .ref (B + 3)), (1, .int (zI x))] := hl
  have hF : Fr (fun b9 k9 => (b9 = 3 ∧ k9 = 1)) M M := Fr.rf
  refine lv_aload_n hx hb dX10_readNumber_0 rfl (lv_at hl 0 rfl) ?_
  refine f_10_0 F w (a := 3) rfl tb_432 dX10_readNumber_1 ?_
  refine lv_aload_n hx hb dX10_readNumber_4 rfl (lv_at hl 0 rfl) ?_
  refine f_10_1 F w (a := 3) rfl tb_433 dX10_readNumber_5 ?_
  obtain ⟨z1, bz1, ez1⟩ := Inv.ld (k := 1) hI (show iv 3 1 = ((-2147483648), 2147483647) from rfl) (show 3 < 146 by decide)
  refine r_val ez1 ?_
  refine k_Vi F w (As := [.int (zI z1)]) (rest := []) (a := 1) (kd_lt (a := 1) (show kd 1 = (8, 0, 0) from rfl) (by decide)) (sh_8 rfl _ _) rfl (q_X8_signAt (x := z1) (by omega)  hI) gv_X10_43 hv_X8_signAt ⟨(Nat.le_of_ble_eq_true rfl), (Nat.le_of_ble_eq_true rfl)⟩ hl.1 rfl (Nat.le_of_ble_eq_true rfl) ⟨Nat.zero_le _, Nat.zero_le _⟩ dX10_readNumber_8 (fun r2 N3 H locs hp w => ?_)
  obtain ⟨z4, rfl, bz4, xz4, hMN3⟩ := hp
  rw [hMN3] at w
  refine k_Ni F w (As := [.int (zI z4)]) (rest := []) (q_X11_digitOf (x := z4) (by omega)  hI) gc_X11_digitOf tb_95 tb_440 (by decide) hs_X11_digitOf ⟨(Nat.le_of_ble_eq_true rfl), (Nat.le_of_ble_eq_true rfl)⟩ hl.1 rfl (Nat.le_of_ble_eq_true rfl) ⟨Nat.zero_le _, Nat.zero_le _⟩ dX10_readNumber_11 (fun r5 N6 H locs hp w => ?_)
  obtain ⟨z7, rfl, bz7, hMN6⟩ := hp
  rw [hMN6] at w
  refine lv_istore_n (lv' := [(2, .int (zI z7)), (0, .ref (B + 3)), (1, .int (zI x))]) hx hb dX10_readNumber_14 rfl hl (by decide) rfl (fun ls hl => ?_)
  refine lv_iload_n hx hb dX10_readNumber_15 rfl (lv_at hl 0 rfl) ?_
  refine lv_iconst (v := zI (-1)) hx hb dX10_readNumber_16 rfl ?_
  refine z_icmp_ne (tgt := 22) hx hb (by omega) (by omega) dX10_readNumber_17 (by decide) (fun c8 => ?_) (fun c8 => ?_)
  · refine lv_aload_n hx hb dX10_readNumber_22 rfl (lv_at hl 1 rfl) ?_
    refine f_10_0 F w (a := 3) rfl tb_432 dX10_readNumber_23 ?_
    refine lv_aload_n hx hb dX10_readNumber_26 rfl (lv_at hl 1 rfl) ?_
    refine f_10_1 F w (a := 3) rfl tb_433 dX10_readNumber_27 ?_
    refine r_val (v := zI z1) (ez1) ?_
    refine lv_iconst (v := zI 1) hx hb dX10_readNumber_30 rfl ?_
    obtain ⟨z9, bz9, x0z9, ez9⟩ := add_ex z1 1
    refine lv_iadd hx hb dX10_readNumber_31 ?_
    refine r_val ez9 ?_
    refine k_Vi F w (As := [.int (zI z9)]) (rest := []) (a := 1) (kd_lt (a := 1) (show kd 1 = (8, 0, 0) from rfl) (by decide)) (sh_8 rfl _ _) rfl (q_X8_signAt (x := z9) (by omega)  hI) gv_X10_43 hv_X8_signAt ⟨(Nat.le_of_ble_eq_true rfl), (Nat.le_of_ble_eq_true rfl)⟩ hl.1 rfl (Nat.le_of_ble_eq_true rfl) ⟨Nat.zero_le _, Nat.zero_le _⟩ dX10_readNumber_32 (fun r10 N11 H locs hp w => ?_)
    obtain ⟨z12, rfl, bz12, xz12, hMN11⟩ := hp
    rw [hMN11] at w
    refine k_Ni F w (As := [.int (zI z12)]) (rest := []) (q_X11_digitOf (x := z12) (by omega)  hI) gc_X11_digitOf tb_95 tb_440 (by decide) hs_X11_digitOf ⟨(Nat.le_of_ble_eq_true rfl), (Nat.le_of_ble_eq_true rfl)⟩ hl.1 rfl (Nat.le_of_ble_eq_true rfl) ⟨Nat.zero_le _, Nat.zero_le _⟩ dX10_readNumber_35 (fun r13 N14 H locs hp w => ?_)
    obtain ⟨z15, rfl, bz15, hMN14⟩ := hp
    rw [hMN14] at w
    refine lv_istore_n (lv' := [(3, .int (zI z15)), (2, .int (zI z7)), (0, .ref (B + 3)), (1, .int (zI x))]) hx hb dX10_readNumber_38 rfl hl (by decide) rfl (fun ls hl => ?_)
    refine lv_iload_n hx hb dX10_readNumber_39 rfl (lv_at hl 0 rfl) ?_
    refine lv_iconst (v := zI (-1)) hx hb dX10_readNumber_40 rfl ?_
    refine z_icmp_ne (tgt := 48) hx hb (by omega) (by omega) dX10_readNumber_41 (by decide) (fun c16 => ?_) (fun c16 => ?_)
    · refine lv_iload_n hx hb dX10_readNumber_48 rfl (lv_at hl 1 rfl) ?_
      refine lv_bipush (v := zI 10) hx hb dX10_readNumber_49 (by decide) ?_
      refine z_imul (z := (10 * z7)) hx hb dX10_readNumber_51 (by omega) ?_
      refine lv_iload_n hx hb dX10_readNumber_52 rfl (lv_at hl 0 rfl) ?_
      refine z_iadd (z := ((10 * z7) + z15)) hx hb dX10_readNumber_53 (by omega) ?_
      refine lv_istore (lv' := [(4, .int (zI ((10 * z7) + z15))), (3, .int (zI z15)), (2, .int (zI z7)), (0, .ref (B + 3)), (1, .int (zI x))]) hx hb dX10_readNumber_54 hl (by decide) rfl (fun ls hl => ?_)
      refine lv_iload hx hb dX10_readNumber_56 (lv_at hl 0 rfl) ?_
      refine lv_iload_n hx hb dX10_readNumber_58 rfl (lv_at hl 4 rfl) ?_
      refine z_icmp_lt (tgt := 64) hx hb (by omega) (by omega) dX10_readNumber_59 (by decide) (fun c17 => ?_) (fun c17 => ?_)
      · refine lv_aload_n hx hb dX10_readNumber_64 rfl (lv_at hl 3 rfl) ?_
        refine lv_dup hx hb dX10_readNumber_65 rfl ?_
        refine f_10_1 F w (a := 3) rfl tb_433 dX10_readNumber_66 ?_
        refine r_val (v := zI z1) (ez1) ?_
        refine lv_iload_n hx hb dX10_readNumber_69 rfl (lv_at hl 1 rfl) ?_
        refine lv_iconst (v := zI (-1)) hx hb dX10_readNumber_70 rfl ?_
        refine z_icmp_ne (tgt := 78) hx hb (by omega) (by omega) dX10_readNumber_71 (by decide) (fun c18 => ?_) (fun c18 => False.elim (by omega))
        refine lv_iconst (v := zI 2) hx hb dX10_readNumber_78 rfl ?_
        obtain ⟨z19, bz19, x0z19, ez19⟩ := add_ex z1 2
        refine lv_iadd hx hb dX10_readNumber_79 ?_
        refine r_val ez19 ?_
        refine u_10_1 F w (a := 3) rfl tb_433 dX10_readNumber_80 (fun H locs w => ?_)
        refine lv_iload hx hb dX10_readNumber_83 (lv_at hl 0 rfl) ?_
        rw [hQ]
        exact e_i F w hr hlocks ⟨_, rfl, (by omega), (Inv.to hI (a := 3) (k := 1) (x := z19) (show iv 3 1 = ((-2147483648), 2147483647) from rfl) (by omega)), (Fr.to hF (by first | omega | (dsimp only; first | done | omega)))⟩ dX10_readNumber_85
      · refine lv_iconst (v := zI (-1)) hx hb dX10_readNumber_62 rfl ?_
        rw [hQ]
        exact e_i F w hr hlocks ⟨_, rfl, (by omega), hI, hF⟩ dX10_readNumber_63
    · refine lv_iload_n hx hb dX10_readNumber_44 rfl (lv_at hl 1 rfl) ?_
      refine lv_goto (tgt := 54) hx hb dX10_readNumber_45 (by decide) ?_
      refine lv_istore (lv' := [(4, .int (zI z7)), (3, .int (zI z15)), (2, .int (zI z7)), (0, .ref (B + 3)), (1, .int (zI x))]) hx hb dX10_readNumber_54 hl (by decide) rfl (fun ls hl => ?_)
      refine lv_iload hx hb dX10_readNumber_56 (lv_at hl 0 rfl) ?_
      refine lv_iload_n hx hb dX10_readNumber_58 rfl (lv_at hl 4 rfl) ?_
      refine z_icmp_lt (tgt := 64) hx hb (by omega) (by omega) dX10_readNumber_59 (by decide) (fun c20 => ?_) (fun c20 => ?_)
      · refine lv_aload_n hx hb dX10_readNumber_64 rfl (lv_at hl 3 rfl) ?_
        refine lv_dup hx hb dX10_readNumber_65 rfl ?_
        refine f_10_1 F w (a := 3) rfl tb_433 dX10_readNumber_66 ?_
        refine r_val (v := zI z1) (ez1) ?_
        refine lv_iload_n hx hb dX10_readNumber_69 rfl (lv_at hl 1 rfl) ?_
        refine lv_iconst (v := zI (-1)) hx hb dX10_readNumber_70 rfl ?_
        refine z_icmp_ne (tgt := 78) hx hb (by omega) (by omega) dX10_readNumber_71 (by decide) (fun c21 => False.elim (by omega)) (fun c21 => ?_)
        refine lv_iconst (v := zI 1) hx hb dX10_readNumber_74 rfl ?_
        refine lv_goto (tgt := 79) hx hb dX10_readNumber_75 (by decide) ?_
        obtain ⟨z22, bz22, x0z22, ez22⟩ := add_ex z1 1
        refine lv_iadd hx hb dX10_readNumber_79 ?_
        refine r_val ez22 ?_
        refine u_10_1 F w (a := 3) rfl tb_433 dX10_readNumber_80 (fun H locs w => ?_)
        refine lv_iload hx hb dX10_readNumber_83 (lv_at hl 0 rfl) ?_
        rw [hQ]
        exact e_i F w hr hlocks ⟨_, rfl, (by omega), (Inv.to hI (a := 3) (k := 1) (x := z22) (show iv 3 1 = ((-2147483648), 2147483647) from rfl) (by omega)), (Fr.to hF (by first | omega | (dsimp only; first | done | omega)))⟩ dX10_readNumber_85
      · refine lv_iconst (v := zI (-1)) hx hb dX10_readNumber_62 rfl ?_
        rw [hQ]
        exact e_i F w hr hlocks ⟨_, rfl, (by omega), hI, hF⟩ dX10_readNumber_63
  · refine lv_iconst (v := zI (-1)) hx hb dX10_readNumber_20 rfl ?_
    rw [hQ]
    exact e_i F w hr hlocks ⟨_, rfl, (by omega), hI, hF⟩ dX10_readNumber_21
theorem dX10_readTones_0 : decode cX10_readTones 0 = .ok (.aload_n 0, 1) := udX10_readTones_0
theorem dX10_readTones_1 : decode cX10_readTones 1 = .ok (.aload_n 0, 1) := udX10_readTones_1
theorem dX10_readTones_2 : decode cX10_readTones 2 = .ok (.getfield 15, 3) := udX10_readTones_2
theorem dX10_readTones_5 : decode cX10_readTones 5 = .ok (.aload_n 0, 1) := udX10_readTones_5
theorem dX10_readTones_6 : decode cX10_readTones 6 = .ok (.getfield 9, 3) := udX10_readTones_6
theorem dX10_readTones_9 : decode cX10_readTones 9 = .ok (.invokevirtual 34, 3) := udX10_readTones_9
theorem dX10_readTones_12 : decode cX10_readTones 12 = .ok (.putfield 9, 3) := udX10_readTones_12
theorem dX10_readTones_15 : decode cX10_readTones 15 = .ok (.aload_n 0, 1) := udX10_readTones_15
theorem dX10_readTones_16 : decode cX10_readTones 16 = .ok (.getfield 9, 3) := udX10_readTones_16
theorem dX10_readTones_19 : decode cX10_readTones 19 = .ok (.aload_n 0, 1) := udX10_readTones_19
theorem dX10_readTones_20 : decode cX10_readTones 20 = .ok (.getfield 15, 3) := udX10_readTones_20
theorem dX10_readTones_23 : decode cX10_readTones 23 = .ok (.getfield 40, 3) := udX10_readTones_23
theorem tb_441 : Cond.fieldLink "ToneLines$WordReader" 40 "ToneLines$Tape" "size" "I" ∈ TB := utb_36
theorem dX10_readTones_26 : decode cX10_readTones 26 = .ok (.if_icmp .ge 85, 3) := udX10_readTones_26
theorem dX10_readTones_111 : decode cX10_readTones 111 = .ok (.iconst 0, 1) := udX10_readTones_111
theorem dX10_readTones_112 : decode cX10_readTones 112 = .ok (.ireturn, 1) := udX10_readTones_112
theorem dX10_readTones_29 : decode cX10_readTones 29 = .ok (.aload_n 0, 1) := udX10_readTones_29
theorem dX10_readTones_30 : decode cX10_readTones 30 = .ok (.getfield 15, 3) := udX10_readTones_30
theorem dX10_readTones_33 : decode cX10_readTones 33 = .ok (.aload_n 0, 1) := udX10_readTones_33
theorem dX10_readTones_34 : decode cX10_readTones 34 = .ok (.getfield 9, 3) := udX10_readTones_34
theorem dX10_readTones_37 : decode cX10_readTones 37 = .ok (.invokevirtual 43, 3) := udX10_readTones_37
theorem dX10_readTones_40 : decode cX10_readTones 40 = .ok (.istore_n 2, 1) := udX10_readTones_40
theorem dX10_readTones_41 : decode cX10_readTones 41 = .ok (.iload_n 2, 1) := udX10_readTones_41
theorem dX10_readTones_42 : decode cX10_readTones 42 = .ok (.bipush 47, 2) := udX10_readTones_42
theorem dX10_readTones_44 : decode cX10_readTones 44 = .ok (.if_icmp .ne 15, 3) := udX10_readTones_44
theorem dX10_readTones_59 : decode cX10_readTones 59 = .ok (.ldc 46, 2) := udX10_readTones_59
theorem dX10_readTones_61 : decode cX10_readTones 61 = .ok (.iload_n 2, 1) := udX10_readTones_61
theorem dX10_readTones_62 : decode cX10_readTones 62 = .ok (.i2c, 1) := udX10_readTones_62
theorem dX10_readTones_63 : decode cX10_readTones 63 = .ok (.invokevirtual 48, 3) := udX10_readTones_63
theorem tk_J0_indexOf_0f7a4 : Cond.code yJ0_indexOf_0f7a4 cJ0_indexOf_0f7a4 2 (some .int) ∈ TB := utk_J0_indexOf_0f7a4
theorem gc_J0_indexOf_0f7a4 : GoodIn TB (cw yJ0_indexOf_0f7a4 cJ0_indexOf_0f7a4 2 (some .int)) := goodIn_c2 tk_J0_indexOf_0f7a4
theorem tb_442 : Cond.methodLink "ToneLines$WordReader" 48 yJ0_indexOf_0f7a4 ∈ TB := utb_37
theorem tb_443 : Cond.instanceMethod yJ0_indexOf_0f7a4 ∈ TB := utb_38
theorem tb_444 : Cond.selects "java/lang/String" yJ0_indexOf_0f7a4 yJ0_indexOf_0f7a4 ∈ TB := utb_39
theorem gv_X10_48 : GoodIn TB (wsV RX10 48 RJ0 yJ0_indexOf_0f7a4 (cw yJ0_indexOf_0f7a4 cJ0_indexOf_0f7a4 2 (some .int))) := goodIn_4 tb_442 tb_443 tb_444 tb_402 gc_J0_indexOf_0f7a4
theorem hv_J0_indexOf_0f7a4 : yJ0_indexOf_0f7a4.cls = RJ0 ∧ yJ0_indexOf_0f7a4.cls ≠ "java/lang/invoke/MethodHandle" ∧ yJ0_indexOf_0f7a4.cls ≠ "java/lang/invoke/VarHandle" ∧ (parseMethodDescriptor yJ0_indexOf_0f7a4.desc).map (fun d => d.parameters.length) = some 1 := uhv_J0_indexOf_0f7a4
theorem dX10_readTones_66 : decode cX10_readTones 66 = .ok (.istore_n 3, 1) := udX10_readTones_66
theorem dX10_readTones_67 : decode cX10_readTones 67 = .ok (.iload_n 3, 1) := udX10_readTones_67
theorem dX10_readTones_68 : decode cX10_readTones 68 = .ok (.ifCond .lt 12, 3) := udX10_readTones_68
theorem dX10_readTones_80 : decode cX10_readTones 80 = .ok (.iconst 0, 1) := udX10_readTones_80
theorem dX10_readTones_81 : decode cX10_readTones 81 = .ok (.ireturn, 1) := udX10_readTones_81
theorem dX10_readTones_71 : decode cX10_readTones 71 = .ok (.aload_n 1, 1) := udX10_readTones_71
theorem dX10_readTones_72 : decode cX10_readTones 72 = .ok (.getfield 53, 3) := udX10_readTones_72
theorem tb_445 : Cond.fieldLink "ToneLines$WordReader" 53 "ToneLines$Word" "tones" "I" ∈ TB := utb_40
theorem dX10_readTones_75 : decode cX10_readTones 75 = .ok (.bipush 12, 2) := udX10_readTones_75
theorem dX10_readTones_77 : decode cX10_readTones 77 = .ok (.if_icmp .lt 5, 3) := udX10_readTones_77
theorem dX10_readTones_82 : decode cX10_readTones 82 = .ok (.aload_n 1, 1) := udX10_readTones_82
theorem dX10_readTones_83 : decode cX10_readTones 83 = .ok (.aload_n 1, 1) := udX10_readTones_83
theorem dX10_readTones_84 : decode cX10_readTones 84 = .ok (.getfield 53, 3) := udX10_readTones_84
theorem dX10_readTones_87 : decode cX10_readTones 87 = .ok (.iload_n 3, 1) := udX10_readTones_87
theorem dX10_readTones_88 : decode cX10_readTones 88 = .ok (.invokevirtual 56, 3) := udX10_readTones_88
theorem tb_446 : Cond.methodLink "ToneLines$WordReader" 56 yX9_insertTone ∈ TB := utb_41
theorem gv_X10_56 : GoodIn TB (wsV RX10 56 RX9 yX9_insertTone (cw yX9_insertTone cX9_insertTone 4 none)) := goodIn_4 tb_446 tb_130 tb_131 tb_5 gc_X9_insertTone
theorem dX10_readTones_91 : decode cX10_readTones 91 = .ok (.aload_n 0, 1) := udX10_readTones_91
theorem dX10_readTones_92 : decode cX10_readTones 92 = .ok (.aload_n 0, 1) := udX10_readTones_92
theorem dX10_readTones_93 : decode cX10_readTones 93 = .ok (.getfield 15, 3) := udX10_readTones_93
theorem dX10_readTones_96 : decode cX10_readTones 96 = .ok (.aload_n 0, 1) := udX10_readTones_96
theorem dX10_readTones_97 : decode cX10_readTones 97 = .ok (.getfield 9, 3) := udX10_readTones_97
theorem dX10_readTones_100 : decode cX10_readTones 100 = .ok (.iconst 1, 1) := udX10_readTones_100
theorem dX10_readTones_101 : decode cX10_readTones 101 = .ok (.iadd, 1) := udX10_readTones_101
theorem dX10_readTones_102 : decode cX10_readTones 102 = .ok (.invokevirtual 34, 3) := udX10_readTones_102
theorem dX10_readTones_105 : decode cX10_readTones 105 = .ok (.putfield 9, 3) := udX10_readTones_105
theorem dX10_readTones_108 : decode cX10_readTones 108 = .ok (.goto (-93), 3) := udX10_readTones_108
theorem dX10_readTones_47 : decode cX10_readTones 47 = .ok (.aload_n 0, 1) := udX10_readTones_47
theorem dX10_readTones_48 : decode cX10_readTones 48 = .ok (.dup, 1) := udX10_readTones_48
theorem dX10_readTones_49 : decode cX10_readTones 49 = .ok (.getfield 9, 3) := udX10_readTones_49
theorem dX10_readTones_52 : decode cX10_readTones 52 = .ok (.iconst 1, 1) := udX10_readTones_52
theorem dX10_readTones_53 : decode cX10_readTones 53 = .ok (.iadd, 1) := udX10_readTones_53
theorem dX10_readTones_54 : decode cX10_readTones 54 = .ok (.putfield 9, 3) := udX10_readTones_54
theorem dX10_readTones_57 : decode cX10_readTones 57 = .ok (.iconst 1, 1) := udX10_readTones_57
theorem dX10_readTones_58 : decode cX10_readTones 58 = .ok (.ireturn, 1) := udX10_readTones_58
set_option maxRecDepth 4000 in
theorem q_X10_readTones {l : Launch} {D : va_G} {B : Nat} {cy : Nat → ClassId} {M : Mem} {a : Nat} (hka : kd a = (9, 0, 0)) (hI : Inv M) : Ci l D B cy yX10_readTones cX10_readTones 4 (some .boolean) 4 91 [.ref (B + 3), .ref (B + a)] M (fun r M1 => ∃ z : Int, r = zI z ∧ (0 ≤ z ∧ z ≤ 1) ∧ Inv M1 ∧ Fr (fun b9 k9 => (b9 = 3 ∧ k9 = 1) ∨ b9 = (a + 1) ∨ b9 = (a + 2) ∨ b9 = a) M1 M) := by
  refine s_anyQ (by decide) (Nat.le_of_ble_eq_true rfl) ?_
  intro p e s m args below meth c ls Q F hr hlocks hQ w hl
  have F : CallFix p m c cX10_readTones 4 s args TB RX10 := F
  have hx := F.1
  have hb := F.2.1
  have hl : lv_has ls 4 [(0, .ref (B + 3)), (1, .ref (B + a))] := hl
  have hF : Fr (fun b9 k9 => (b9 = 3 ∧ k9 = 1) ∨ b9 = (a + 1) ∨ b9 = (a + 2) ∨ b9 = a) M M := Fr.rf
  refine lv_aload_n hx hb dX10_readTones_0 rfl (lv_at hl 0 rfl) ?_
  refine lv_aload_n hx hb dX10_readTones_1 rfl (lv_at hl 0 rfl) ?_
  refine f_10_0 F w (a := 3) rfl tb_432 dX10_readTones_2 ?_
  refine lv_aload_n hx hb dX10_readTones_5 rfl (lv_at hl 0 rfl) ?_
  refine f_10_1 F w (a := 3) rfl tb_433 dX10_readTones_6 ?_
  obtain ⟨z1, bz1, ez1⟩ := Inv.ld (k := 1) hI (show iv 3 1 = ((-2147483648), 2147483647) from rfl) (show 3 < 146 by decide)
  refine r_val ez1 ?_
  refine k_Vi F w (As := [.int (zI z1)]) (rest := [.ref (B + 3)]) (a := 1) (kd_lt (a := 1) (show kd 1 = (8, 0, 0) from rfl) (by decide)) (sh_8 rfl _ _) rfl (q_X8_skipBlanks (x := z1) (by omega)  hI) gv_X10_34 hv_X8_skipBlanks ⟨(Nat.le_of_ble_eq_true rfl), (Nat.le_of_ble_eq_true rfl)⟩ hl.1 rfl (Nat.le_of_ble_eq_true rfl) ⟨Nat.zero_le _, Nat.zero_le _⟩ dX10_readTones_9 (fun r2 N3 H locs hp w => ?_)
  obtain ⟨z4, rfl, bz4, xz4, hMN3⟩ := hp
  rw [hMN3] at w
  refine u_10_1 F w (a := 3) rfl tb_433 dX10_readTones_12 (fun H locs w => ?_)
  have lp15 : ∀ (f : Nat)  (g3_1_15 : Int) (NL15 : Mem), ((-2147483648) ≤ g3_1_15 ∧ g3_1_15 ≤ 2147483647) → NL15.1 3 1 = zI g3_1_15 → Inv NL15 → Fr (fun b9 k9 => (b9 = 3 ∧ k9 = 1) ∨ b9 = (a + 1) ∨ b9 = (a + 2) ∨ b9 = a) NL15 M → (Int.toNat (300 - g3_1_15) < f) → ∀ (H : Heap) (locs : List Loc) (ls : Array Slot), Wd D B cy s s.heap NL15 H locs → lv_has ls 4 [(0, .ref (B + 3)), (1, .ref (B + a))] → W p l e (rmm 4 91) s m args below meth c H locs 0 0 Q (F0 m 15 ls []) := by
    intro f
    induction f with
    | zero => intros; omega
    | succ f ih15 =>
      intro  g3_1_15 NL15 ig3_1_15 eg3_1_15 hIL15 hFL15 hf15 H locs ls w hl
      refine lv_aload_n hx hb dX10_readTones_15 rfl (lv_at hl 0 rfl) ?_
      refine f_10_1 F w (a := 3) rfl tb_433 dX10_readTones_16 ?_
      refine r_val (v := zI g3_1_15) (eg3_1_15) ?_
      refine lv_aload_n hx hb dX10_readTones_19 rfl (lv_at hl 0 rfl) ?_
      refine f_10_0 F w (a := 3) rfl tb_432 dX10_readTones_20 ?_
      refine f_8_1 F w (a := 1) rfl tb_441 dX10_readTones_23 ?_
      obtain ⟨z5, bz5, ez5⟩ := Inv.ld (k := 1) hIL15 (show iv 1 1 = (0, 300) from rfl) (show 1 < 146 by decide)
      refine r_val ez5 ?_
      refine z_icmp_ge (tgt := 111) hx hb (by omega) (by omega) dX10_readTones_26 (by decide) (fun c6 => ?_) (fun c6 => ?_)
      · refine lv_iconst (v := zI 0) hx hb dX10_readTones_111 rfl ?_
        rw [hQ]
        exact e_z F w hr hlocks (nar_z (by omega)) ⟨_, rfl, (by omega), hIL15, hFL15⟩ dX10_readTones_112
      · refine lv_aload_n hx hb dX10_readTones_29 rfl (lv_at hl 0 rfl) ?_
        refine f_10_0 F w (a := 3) rfl tb_432 dX10_readTones_30 ?_
        refine lv_aload_n hx hb dX10_readTones_33 rfl (lv_at hl 0 rfl) ?_
        refine f_10_1 F w (a := 3) rfl tb_433 dX10_readTones_34 ?_
        refine r_val (v := zI g3_1_15) (eg3_1_15) ?_
        refine k_Vi F w (As := [.int (zI g3_1_15)]) (rest := []) (a := 1) (kd_lt (a := 1) (show kd 1 = (8, 0, 0) from rfl) (by decide)) (sh_8 rfl _ _) rfl (q_X8_signAt (x := g3_1_15) (by omega)  hIL15) gv_X10_43 hv_X8_signAt ⟨(Nat.le_of_ble_eq_true rfl), (Nat.le_of_ble_eq_true rfl)⟩ hl.1 rfl (Nat.le_of_ble_eq_true rfl) ⟨Nat.zero_le _, Nat.zero_le _⟩ dX10_readTones_37 (fun r7 N8 H locs hp w => ?_)
        obtain ⟨z9, rfl, bz9, xz9, hMN8⟩ := hp
        rw [hMN8] at w
        refine lv_istore_n (lv' := [(2, .int (zI z9)), (0, .ref (B + 3)), (1, .ref (B + a))]) hx hb dX10_readTones_40 rfl hl (by decide) rfl (fun ls hl => ?_)
        refine lv_iload_n hx hb dX10_readTones_41 rfl (lv_at hl 0 rfl) ?_
        refine lv_bipush (v := zI 47) hx hb dX10_readTones_42 (by decide) ?_
        refine z_icmp_ne (tgt := 59) hx hb (by omega) (by omega) dX10_readTones_44 (by decide) (fun c10 => ?_) (fun c10 => ?_)
        · refine va_ldcS F.1 F.2.1 F.2.2.2.1 (show vk_R "ToneLines$WordReader" 46 "lmh" (D.2 200 0) s from (w.2.2.2.2.1 0 (by decide)).1) dX10_readTones_59 ?_
          refine lv_iload_n hx hb dX10_readTones_61 rfl (lv_at hl 0 rfl) ?_
          obtain ⟨z11, bz11, ez11⟩ := i2c_ex (zI z9)
          refine lv_i2c (v := zI z11) hx hb dX10_readTones_62 ez11 ?_
          refine k_Qi F w (As := [.int (zI z11)]) (rest := []) (i := 0) (show 0 < NSL by decide) (q_J0_indexOf_0f7a4 (i9 := 0) (show 0 < NSL by decide) (x := z11) (by omega)  hIL15) gv_X10_48 hv_J0_indexOf_0f7a4 ⟨(Nat.le_of_ble_eq_true rfl), (Nat.le_of_ble_eq_true rfl)⟩ hl.1 rfl (Nat.le_of_ble_eq_true rfl) ⟨Nat.zero_le _, Nat.zero_le _⟩ dX10_readTones_63 (fun r12 N13 H locs hp w => ?_)
          obtain ⟨z14, rfl, bz14, hMN13⟩ := hp
          rw [hMN13] at w
          refine lv_istore_n (lv' := [(3, .int (zI z14)), (2, .int (zI z9)), (0, .ref (B + 3)), (1, .ref (B + a))]) hx hb dX10_readTones_66 rfl hl (by decide) rfl (fun ls hl => ?_)
          refine lv_iload_n hx hb dX10_readTones_67 rfl (lv_at hl 0 rfl) ?_
          refine z_if_lt (tgt := 80) hx hb (by omega) dX10_readTones_68 (by decide) (fun c15 => ?_) (fun c15 => ?_)
          · refine lv_iconst (v := zI 0) hx hb dX10_readTones_80 rfl ?_
            rw [hQ]
            exact e_z F w hr hlocks (nar_z (by omega)) ⟨_, rfl, (by omega), hIL15, hFL15⟩ dX10_readTones_81
          · refine lv_aload_n hx hb dX10_readTones_71 rfl (lv_at hl 3 rfl) ?_
            refine f_9_0 F w (a := a) hka tb_445 dX10_readTones_72 ?_
            obtain ⟨z16, bz16, ez16⟩ := Inv.ld (k := 0) hIL15 (iv_w0 hka) (by have := lt_w hka; omega)
            refine r_val ez16 ?_
            refine lv_bipush (v := zI 12) hx hb dX10_readTones_75 (by decide) ?_
            refine z_icmp_lt (tgt := 82) hx hb (by omega) (by omega) dX10_readTones_77 (by decide) (fun c17 => ?_) (fun c17 => ?_)
            · refine lv_aload_n hx hb dX10_readTones_82 rfl (lv_at hl 3 rfl) ?_
              refine lv_aload_n hx hb dX10_readTones_83 rfl (lv_at hl 3 rfl) ?_
              refine f_9_0 F w (a := a) hka tb_445 dX10_readTones_84 ?_
              refine r_val (v := zI z16) (ez16) ?_
              refine lv_iload_n hx hb dX10_readTones_87 rfl (lv_at hl 0 rfl) ?_
              refine k_Vv F w (As := [.int (zI z16), .int (zI z14)]) (rest := []) (a := a) (kd_lt (a := a) hka (by decide)) (sh_9 hka _ _) rfl (q_X9_insertTone (a := a) hka (t := z16) (by omega) (x := z14) (by omega)  hIL15) gv_X10_56 hv_X9_insertTone ⟨(Nat.le_of_ble_eq_true rfl), (Nat.le_of_ble_eq_true rfl)⟩ hl.1 rfl (Nat.le_of_ble_eq_true rfl) ⟨Nat.zero_le _, Nat.zero_le _⟩ dX10_readTones_88 (fun N19 H locs hp w => ?_)
              obtain ⟨hIN19, hFN19⟩ := hp
              have hGN19 := Fr.tr hFL15 hFN19 (S := (fun b9 k9 => (b9 = 3 ∧ k9 = 1) ∨ b9 = (a + 1) ∨ b9 = (a + 2) ∨ b9 = a)) (fun b k h => by (try dsimp only at h ⊢); (repeat' (refine Or.elim h ?_ ?_ <;> clear h <;> intro h)); all_goals first | (obtain ⟨rfl, rfl⟩ := h; decide) | (subst h; decide) | omega)
              have kn21 : N19.1 3 1 = zI g3_1_15 := (hFN19 3 1 (by have := w_ap hka; first | omega | (dsimp only; omega))).trans (eg3_1_15)
              have kn22 : N19.1 1 1 = zI z5 := (hFN19 1 1 (by have := w_ap hka; first | omega | (dsimp only; omega))).trans (ez5)
              refine lv_aload_n hx hb dX10_readTones_91 rfl (lv_at hl 2 rfl) ?_
              refine lv_aload_n hx hb dX10_readTones_92 rfl (lv_at hl 2 rfl) ?_
              refine f_10_0 F w (a := 3) rfl tb_432 dX10_readTones_93 ?_
              refine lv_aload_n hx hb dX10_readTones_96 rfl (lv_at hl 2 rfl) ?_
              refine f_10_1 F w (a := 3) rfl tb_433 dX10_readTones_97 ?_
              refine r_val (v := zI g3_1_15) (kn21) ?_
              refine lv_iconst (v := zI 1) hx hb dX10_readTones_100 rfl ?_
              refine z_iadd (z := (g3_1_15 + 1)) hx hb dX10_readTones_101 (by omega) ?_
              refine k_Vi F w (As := [.int (zI (g3_1_15 + 1))]) (rest := [.ref (B + 3)]) (a := 1) (kd_lt (a := 1) (show kd 1 = (8, 0, 0) from rfl) (by decide)) (sh_8 rfl _ _) rfl (q_X8_skipBlanks (x := (g3_1_15 + 1)) (by omega)  hIN19) gv_X10_34 hv_X8_skipBlanks ⟨(Nat.le_of_ble_eq_true rfl), (Nat.le_of_ble_eq_true rfl)⟩ hl.1 rfl (Nat.le_of_ble_eq_true rfl) ⟨Nat.zero_le _, Nat.zero_le _⟩ dX10_readTones_102 (fun r23 N24 H locs hp w => ?_)
              obtain ⟨z25, rfl, bz25, xz25, hMN24⟩ := hp
              rw [hMN24] at w
              refine u_10_1 F w (a := 3) rfl tb_433 dX10_readTones_105 (fun H locs w => ?_)
              refine lv_goto (tgt := 15) hx hb dX10_readTones_108 (by decide) ?_
              exact ih15 z25 (st N19 3 1 (zI z25))  (by omega) (st_at)  (Inv.to hIN19 (a := 3) (k := 1) (x := z25) (show iv 3 1 = ((-2147483648), 2147483647) from rfl) (by omega)) (Fr.to hGN19 (by first | omega | (dsimp only; first | done | omega))) (by omega) _ _ _ w (lv_sub hl [2, 3] rfl)
            · refine lv_iconst (v := zI 0) hx hb dX10_readTones_80 rfl ?_
              rw [hQ]
              exact e_z F w hr hlocks (nar_z (by omega)) ⟨_, rfl, (by omega), hIL15, hFL15⟩ dX10_readTones_81
        · refine lv_aload_n hx hb dX10_readTones_47 rfl (lv_at hl 1 rfl) ?_
          refine lv_dup hx hb dX10_readTones_48 rfl ?_
          refine f_10_1 F w (a := 3) rfl tb_433 dX10_readTones_49 ?_
          refine r_val (v := zI g3_1_15) (eg3_1_15) ?_
          refine lv_iconst (v := zI 1) hx hb dX10_readTones_52 rfl ?_
          refine z_iadd (z := (g3_1_15 + 1)) hx hb dX10_readTones_53 (by omega) ?_
          refine u_10_1 F w (a := 3) rfl tb_433 dX10_readTones_54 (fun H locs w => ?_)
          refine lv_iconst (v := zI 1) hx hb dX10_readTones_57 rfl ?_
          rw [hQ]
          exact e_z F w hr hlocks (nar_z (by omega)) ⟨_, rfl, (by omega), (Inv.to hIL15 (a := 3) (k := 1) (x := (g3_1_15 + 1)) (show iv 3 1 = ((-2147483648), 2147483647) from rfl) (by omega)), (Fr.to hFL15 (by first | omega | (dsimp only; first | done | omega)))⟩ dX10_readTones_58
  exact lp15 _ z4 (st M 3 1 (zI z4)) (by omega) (st_at) (Inv.to hI (a := 3) (k := 1) (x := z4) (show iv 3 1 = ((-2147483648), 2147483647) from rfl) (by omega)) (Fr.to hF (by first | omega | (dsimp only; first | done | omega))) (Nat.lt_succ_self _) _ _ _ w (lv_sub hl [0, 1] rfl)
theorem dX10_readSyllables_0 : decode cX10_readSyllables 0 = .ok (.iconst 0, 1) := udX10_readSyllables_0
theorem dX10_readSyllables_1 : decode cX10_readSyllables 1 = .ok (.istore_n 2, 1) := udX10_readSyllables_1
theorem dX10_readSyllables_2 : decode cX10_readSyllables 2 = .ok (.aload_n 0, 1) := udX10_readSyllables_2
theorem dX10_readSyllables_3 : decode cX10_readSyllables 3 = .ok (.aload_n 0, 1) := udX10_readSyllables_3
theorem dX10_readSyllables_4 : decode cX10_readSyllables 4 = .ok (.getfield 15, 3) := udX10_readSyllables_4
theorem dX10_readSyllables_7 : decode cX10_readSyllables 7 = .ok (.aload_n 0, 1) := udX10_readSyllables_7
theorem dX10_readSyllables_8 : decode cX10_readSyllables 8 = .ok (.getfield 9, 3) := udX10_readSyllables_8
theorem dX10_readSyllables_11 : decode cX10_readSyllables 11 = .ok (.invokevirtual 34, 3) := udX10_readSyllables_11
theorem dX10_readSyllables_14 : decode cX10_readSyllables 14 = .ok (.putfield 9, 3) := udX10_readSyllables_14
theorem dX10_readSyllables_17 : decode cX10_readSyllables 17 = .ok (.aload_n 0, 1) := udX10_readSyllables_17
theorem dX10_readSyllables_18 : decode cX10_readSyllables 18 = .ok (.getfield 9, 3) := udX10_readSyllables_18
theorem dX10_readSyllables_21 : decode cX10_readSyllables 21 = .ok (.aload_n 0, 1) := udX10_readSyllables_21
theorem dX10_readSyllables_22 : decode cX10_readSyllables 22 = .ok (.getfield 15, 3) := udX10_readSyllables_22
theorem dX10_readSyllables_25 : decode cX10_readSyllables 25 = .ok (.getfield 40, 3) := udX10_readSyllables_25
theorem dX10_readSyllables_28 : decode cX10_readSyllables 28 = .ok (.if_icmp .ge 116, 3) := udX10_readSyllables_28
theorem dX10_readSyllables_144 : decode cX10_readSyllables 144 = .ok (.iconst 0, 1) := udX10_readSyllables_144
theorem dX10_readSyllables_145 : decode cX10_readSyllables 145 = .ok (.ireturn, 1) := udX10_readSyllables_145
theorem dX10_readSyllables_31 : decode cX10_readSyllables 31 = .ok (.aload_n 0, 1) := udX10_readSyllables_31
theorem dX10_readSyllables_32 : decode cX10_readSyllables 32 = .ok (.getfield 15, 3) := udX10_readSyllables_32
theorem dX10_readSyllables_35 : decode cX10_readSyllables 35 = .ok (.aload_n 0, 1) := udX10_readSyllables_35
theorem dX10_readSyllables_36 : decode cX10_readSyllables 36 = .ok (.getfield 9, 3) := udX10_readSyllables_36
theorem dX10_readSyllables_39 : decode cX10_readSyllables 39 = .ok (.invokevirtual 43, 3) := udX10_readSyllables_39
theorem dX10_readSyllables_42 : decode cX10_readSyllables 42 = .ok (.istore_n 3, 1) := udX10_readSyllables_42
theorem dX10_readSyllables_43 : decode cX10_readSyllables 43 = .ok (.iload_n 3, 1) := udX10_readSyllables_43
theorem dX10_readSyllables_44 : decode cX10_readSyllables 44 = .ok (.bipush 47, 2) := udX10_readSyllables_44
theorem dX10_readSyllables_46 : decode cX10_readSyllables 46 = .ok (.if_icmp .ne 19, 3) := udX10_readSyllables_46
theorem dX10_readSyllables_65 : decode cX10_readSyllables 65 = .ok (.iload_n 3, 1) := udX10_readSyllables_65
theorem dX10_readSyllables_66 : decode cX10_readSyllables 66 = .ok (.bipush 45, 2) := udX10_readSyllables_66
theorem dX10_readSyllables_68 : decode cX10_readSyllables 68 = .ok (.if_icmp .ne 12, 3) := udX10_readSyllables_68
theorem dX10_readSyllables_80 : decode cX10_readSyllables 80 = .ok (.iload_n 3, 1) := udX10_readSyllables_80
theorem dX10_readSyllables_81 : decode cX10_readSyllables 81 = .ok (.bipush 111, 2) := udX10_readSyllables_81
theorem dX10_readSyllables_83 : decode cX10_readSyllables 83 = .ok (.if_icmp .eq 9, 3) := udX10_readSyllables_83
theorem dX10_readSyllables_92 : decode cX10_readSyllables 92 = .ok (.aload_n 1, 1) := udX10_readSyllables_92
theorem dX10_readSyllables_93 : decode cX10_readSyllables 93 = .ok (.getfield 60, 3) := udX10_readSyllables_93
theorem tb_447 : Cond.fieldLink "ToneLines$WordReader" 60 "ToneLines$Word" "syllables" "I" ∈ TB := utb_45
theorem dX10_readSyllables_96 : decode cX10_readSyllables 96 = .ok (.bipush 12, 2) := udX10_readSyllables_96
theorem dX10_readSyllables_98 : decode cX10_readSyllables 98 = .ok (.if_icmp .ge 24, 3) := udX10_readSyllables_98
theorem dX10_readSyllables_122 : decode cX10_readSyllables 122 = .ok (.iconst 0, 1) := udX10_readSyllables_122
theorem dX10_readSyllables_123 : decode cX10_readSyllables 123 = .ok (.ireturn, 1) := udX10_readSyllables_123
theorem dX10_readSyllables_101 : decode cX10_readSyllables 101 = .ok (.aload_n 1, 1) := udX10_readSyllables_101
theorem dX10_readSyllables_102 : decode cX10_readSyllables 102 = .ok (.iload_n 3, 1) := udX10_readSyllables_102
theorem dX10_readSyllables_103 : decode cX10_readSyllables 103 = .ok (.bipush 79, 2) := udX10_readSyllables_103
theorem dX10_readSyllables_105 : decode cX10_readSyllables 105 = .ok (.if_icmp .ne 7, 3) := udX10_readSyllables_105
theorem dX10_readSyllables_112 : decode cX10_readSyllables 112 = .ok (.iconst 0, 1) := udX10_readSyllables_112
theorem dX10_readSyllables_113 : decode cX10_readSyllables 113 = .ok (.iload_n 2, 1) := udX10_readSyllables_113
theorem dX10_readSyllables_114 : decode cX10_readSyllables 114 = .ok (.invokevirtual 63, 3) := udX10_readSyllables_114
theorem tb_448 : Cond.methodLink "ToneLines$WordReader" 63 yX9_addSyllable ∈ TB := utb_46
theorem gv_X10_63 : GoodIn TB (wsV RX10 63 RX9 yX9_addSyllable (cw yX9_addSyllable cX9_addSyllable 3 none)) := goodIn_4 tb_448 tb_312 tb_313 tb_5 gc_X9_addSyllable
theorem dX10_readSyllables_117 : decode cX10_readSyllables 117 = .ok (.iconst 0, 1) := udX10_readSyllables_117
theorem dX10_readSyllables_118 : decode cX10_readSyllables 118 = .ok (.istore_n 2, 1) := udX10_readSyllables_118
theorem dX10_readSyllables_119 : decode cX10_readSyllables 119 = .ok (.goto 5, 3) := udX10_readSyllables_119
theorem dX10_readSyllables_124 : decode cX10_readSyllables 124 = .ok (.aload_n 0, 1) := udX10_readSyllables_124
theorem dX10_readSyllables_125 : decode cX10_readSyllables 125 = .ok (.aload_n 0, 1) := udX10_readSyllables_125
theorem dX10_readSyllables_126 : decode cX10_readSyllables 126 = .ok (.getfield 15, 3) := udX10_readSyllables_126
theorem dX10_readSyllables_129 : decode cX10_readSyllables 129 = .ok (.aload_n 0, 1) := udX10_readSyllables_129
theorem dX10_readSyllables_130 : decode cX10_readSyllables 130 = .ok (.getfield 9, 3) := udX10_readSyllables_130
theorem dX10_readSyllables_133 : decode cX10_readSyllables 133 = .ok (.iconst 1, 1) := udX10_readSyllables_133
theorem dX10_readSyllables_134 : decode cX10_readSyllables 134 = .ok (.iadd, 1) := udX10_readSyllables_134
theorem dX10_readSyllables_135 : decode cX10_readSyllables 135 = .ok (.invokevirtual 34, 3) := udX10_readSyllables_135
theorem dX10_readSyllables_138 : decode cX10_readSyllables 138 = .ok (.putfield 9, 3) := udX10_readSyllables_138
theorem dX10_readSyllables_141 : decode cX10_readSyllables 141 = .ok (.goto (-124), 3) := udX10_readSyllables_141
theorem dX10_readSyllables_86 : decode cX10_readSyllables 86 = .ok (.iload_n 3, 1) := udX10_readSyllables_86
theorem dX10_readSyllables_87 : decode cX10_readSyllables 87 = .ok (.bipush 79, 2) := udX10_readSyllables_87
theorem dX10_readSyllables_89 : decode cX10_readSyllables 89 = .ok (.if_icmp .ne 33, 3) := udX10_readSyllables_89
theorem dX10_readSyllables_108 : decode cX10_readSyllables 108 = .ok (.iconst 1, 1) := udX10_readSyllables_108
theorem dX10_readSyllables_109 : decode cX10_readSyllables 109 = .ok (.goto 4, 3) := udX10_readSyllables_109
theorem dX10_readSyllables_71 : decode cX10_readSyllables 71 = .ok (.iload_n 2, 1) := udX10_readSyllables_71
theorem dX10_readSyllables_72 : decode cX10_readSyllables 72 = .ok (.ifCond .ne 8, 3) := udX10_readSyllables_72
theorem dX10_readSyllables_75 : decode cX10_readSyllables 75 = .ok (.iconst 1, 1) := udX10_readSyllables_75
theorem dX10_readSyllables_76 : decode cX10_readSyllables 76 = .ok (.istore_n 2, 1) := udX10_readSyllables_76
theorem dX10_readSyllables_77 : decode cX10_readSyllables 77 = .ok (.goto 47, 3) := udX10_readSyllables_77
theorem dX10_readSyllables_49 : decode cX10_readSyllables 49 = .ok (.iload_n 2, 1) := udX10_readSyllables_49
theorem dX10_readSyllables_50 : decode cX10_readSyllables 50 = .ok (.ifCond .ne 15, 3) := udX10_readSyllables_50
theorem dX10_readSyllables_53 : decode cX10_readSyllables 53 = .ok (.aload_n 0, 1) := udX10_readSyllables_53
theorem dX10_readSyllables_54 : decode cX10_readSyllables 54 = .ok (.dup, 1) := udX10_readSyllables_54
theorem dX10_readSyllables_55 : decode cX10_readSyllables 55 = .ok (.getfield 9, 3) := udX10_readSyllables_55
theorem dX10_readSyllables_58 : decode cX10_readSyllables 58 = .ok (.iconst 1, 1) := udX10_readSyllables_58
theorem dX10_readSyllables_59 : decode cX10_readSyllables 59 = .ok (.iadd, 1) := udX10_readSyllables_59
theorem dX10_readSyllables_60 : decode cX10_readSyllables 60 = .ok (.putfield 9, 3) := udX10_readSyllables_60
theorem dX10_readSyllables_63 : decode cX10_readSyllables 63 = .ok (.iconst 1, 1) := udX10_readSyllables_63
theorem dX10_readSyllables_64 : decode cX10_readSyllables 64 = .ok (.ireturn, 1) := udX10_readSyllables_64
set_option maxRecDepth 4000 in
theorem q_X10_readSyllables {l : Launch} {D : va_G} {B : Nat} {cy : Nat → ClassId} {M : Mem} {a : Nat} (hka : kd a = (9, 0, 0)) (hI : Inv M) : Ci l D B cy yX10_readSyllables cX10_readSyllables 4 (some .boolean) 2 46 [.ref (B + 3), .ref (B + a)] M (fun r M1 => ∃ z : Int, r = zI z ∧ (0 ≤ z ∧ z ≤ 1) ∧ Inv M1 ∧ Fr (fun b9 k9 => (b9 = 3 ∧ k9 = 1) ∨ b9 = a) M1 M) := by
  refine s_anyQ (by decide) (Nat.le_of_ble_eq_true rfl) ?_
  intro p e s m args below meth c ls Q F hr hlocks hQ w hl
  have F : CallFix p m c cX10_readSyllables 4 s args TB RX10 := F
  have hx := F.1
  have hb := F.2.1
  have hl : lv_has ls 4 [(0, .ref (B + 3)), (1, .ref (B + a))] := hl
  have hF : Fr (fun b9 k9 => (b9 = 3 ∧ k9 = 1) ∨ b9 = a) M M := Fr.rf
  refine lv_iconst (v := zI 0) hx hb dX10_readSyllables_0 rfl ?_
  refine lv_istore_n (lv' := [(2, .int (zI 0)), (0, .ref (B + 3)), (1, .ref (B + a))]) hx hb dX10_readSyllables_1 rfl hl (by decide) rfl (fun ls hl => ?_)
  refine lv_aload_n hx hb dX10_readSyllables_2 rfl (lv_at hl 1 rfl) ?_
  refine lv_aload_n hx hb dX10_readSyllables_3 rfl (lv_at hl 1 rfl) ?_
  refine f_10_0 F w (a := 3) rfl tb_432 dX10_readSyllables_4 ?_
  refine lv_aload_n hx hb dX10_readSyllables_7 rfl (lv_at hl 1 rfl) ?_
  refine f_10_1 F w (a := 3) rfl tb_433 dX10_readSyllables_8 ?_
  obtain ⟨z1, bz1, ez1⟩ := Inv.ld (k := 1) hI (show iv 3 1 = ((-2147483648), 2147483647) from rfl) (show 3 < 146 by decide)
  refine r_val ez1 ?_
  refine k_Vi F w (As := [.int (zI z1)]) (rest := [.ref (B + 3)]) (a := 1) (kd_lt (a := 1) (show kd 1 = (8, 0, 0) from rfl) (by decide)) (sh_8 rfl _ _) rfl (q_X8_skipBlanks (x := z1) (by omega)  hI) gv_X10_34 hv_X8_skipBlanks ⟨(Nat.le_of_ble_eq_true rfl), (Nat.le_of_ble_eq_true rfl)⟩ hl.1 rfl (Nat.le_of_ble_eq_true rfl) ⟨Nat.zero_le _, Nat.zero_le _⟩ dX10_readSyllables_11 (fun r2 N3 H locs hp w => ?_)
  obtain ⟨z4, rfl, bz4, xz4, hMN3⟩ := hp
  rw [hMN3] at w
  refine u_10_1 F w (a := 3) rfl tb_433 dX10_readSyllables_14 (fun H locs w => ?_)
  have lp17 : ∀ (f : Nat) (v2_17 : Int) (g3_1_17 : Int) (NL17 : Mem), (0 ≤ v2_17 ∧ v2_17 ≤ 1) → ((-2147483648) ≤ g3_1_17 ∧ g3_1_17 ≤ 2147483647) → NL17.1 3 1 = zI g3_1_17 → Inv NL17 → Fr (fun b9 k9 => (b9 = 3 ∧ k9 = 1) ∨ b9 = a) NL17 M → (Int.toNat (300 - g3_1_17) < f) → ∀ (H : Heap) (locs : List Loc) (ls : Array Slot), Wd D B cy s s.heap NL17 H locs → lv_has ls 4 [(2, .int (zI v2_17)), (0, .ref (B + 3)), (1, .ref (B + a))] → W p l e (rmm 2 46) s m args below meth c H locs 0 0 Q (F0 m 17 ls []) := by
    intro f
    induction f with
    | zero => intros; omega
    | succ f ih17 =>
      intro v2_17 g3_1_17 NL17 iv2_17 ig3_1_17 eg3_1_17 hIL17 hFL17 hf17 H locs ls w hl
      refine lv_aload_n hx hb dX10_readSyllables_17 rfl (lv_at hl 1 rfl) ?_
      refine f_10_1 F w (a := 3) rfl tb_433 dX10_readSyllables_18 ?_
      refine r_val (v := zI g3_1_17) (eg3_1_17) ?_
      refine lv_aload_n hx hb dX10_readSyllables_21 rfl (lv_at hl 1 rfl) ?_
      refine f_10_0 F w (a := 3) rfl tb_432 dX10_readSyllables_22 ?_
      refine f_8_1 F w (a := 1) rfl tb_441 dX10_readSyllables_25 ?_
      obtain ⟨z5, bz5, ez5⟩ := Inv.ld (k := 1) hIL17 (show iv 1 1 = (0, 300) from rfl) (show 1 < 146 by decide)
      refine r_val ez5 ?_
      refine z_icmp_ge (tgt := 144) hx hb (by omega) (by omega) dX10_readSyllables_28 (by decide) (fun c6 => ?_) (fun c6 => ?_)
      · refine lv_iconst (v := zI 0) hx hb dX10_readSyllables_144 rfl ?_
        rw [hQ]
        exact e_z F w hr hlocks (nar_z (by omega)) ⟨_, rfl, (by omega), hIL17, hFL17⟩ dX10_readSyllables_145
      · refine lv_aload_n hx hb dX10_readSyllables_31 rfl (lv_at hl 1 rfl) ?_
        refine f_10_0 F w (a := 3) rfl tb_432 dX10_readSyllables_32 ?_
        refine lv_aload_n hx hb dX10_readSyllables_35 rfl (lv_at hl 1 rfl) ?_
        refine f_10_1 F w (a := 3) rfl tb_433 dX10_readSyllables_36 ?_
        refine r_val (v := zI g3_1_17) (eg3_1_17) ?_
        refine k_Vi F w (As := [.int (zI g3_1_17)]) (rest := []) (a := 1) (kd_lt (a := 1) (show kd 1 = (8, 0, 0) from rfl) (by decide)) (sh_8 rfl _ _) rfl (q_X8_signAt (x := g3_1_17) (by omega)  hIL17) gv_X10_43 hv_X8_signAt ⟨(Nat.le_of_ble_eq_true rfl), (Nat.le_of_ble_eq_true rfl)⟩ hl.1 rfl (Nat.le_of_ble_eq_true rfl) ⟨Nat.zero_le _, Nat.zero_le _⟩ dX10_readSyllables_39 (fun r7 N8 H locs hp w => ?_)
        obtain ⟨z9, rfl, bz9, xz9, hMN8⟩ := hp
        rw [hMN8] at w
        refine lv_istore_n (lv' := [(3, .int (zI z9)), (2, .int (zI v2_17)), (0, .ref (B + 3)), (1, .ref (B + a))]) hx hb dX10_readSyllables_42 rfl hl (by decide) rfl (fun ls hl => ?_)
        refine lv_iload_n hx hb dX10_readSyllables_43 rfl (lv_at hl 0 rfl) ?_
        refine lv_bipush (v := zI 47) hx hb dX10_readSyllables_44 (by decide) ?_
        refine z_icmp_ne (tgt := 65) hx hb (by omega) (by omega) dX10_readSyllables_46 (by decide) (fun c10 => ?_) (fun c10 => ?_)
        · refine lv_iload_n hx hb dX10_readSyllables_65 rfl (lv_at hl 0 rfl) ?_
          refine lv_bipush (v := zI 45) hx hb dX10_readSyllables_66 (by decide) ?_
          refine z_icmp_ne (tgt := 80) hx hb (by omega) (by omega) dX10_readSyllables_68 (by decide) (fun c11 => ?_) (fun c11 => ?_)
          · refine lv_iload_n hx hb dX10_readSyllables_80 rfl (lv_at hl 0 rfl) ?_
            refine lv_bipush (v := zI 111) hx hb dX10_readSyllables_81 (by decide) ?_
            refine z_icmp_eq (tgt := 92) hx hb (by omega) (by omega) dX10_readSyllables_83 (by decide) (fun c12 => ?_) (fun c12 => ?_)
            · refine lv_aload_n hx hb dX10_readSyllables_92 rfl (lv_at hl 3 rfl) ?_
              refine f_9_1 F w (a := a) hka tb_447 dX10_readSyllables_93 ?_
              obtain ⟨z13, bz13, ez13⟩ := Inv.ld (k := 1) hIL17 (iv_w1 hka) (by have := lt_w hka; omega)
              refine r_val ez13 ?_
              refine lv_bipush (v := zI 12) hx hb dX10_readSyllables_96 (by decide) ?_
              refine z_icmp_ge (tgt := 122) hx hb (by omega) (by omega) dX10_readSyllables_98 (by decide) (fun c14 => ?_) (fun c14 => ?_)
              · refine lv_iconst (v := zI 0) hx hb dX10_readSyllables_122 rfl ?_
                rw [hQ]
                exact e_z F w hr hlocks (nar_z (by omega)) ⟨_, rfl, (by omega), hIL17, hFL17⟩ dX10_readSyllables_123
              · refine lv_aload_n hx hb dX10_readSyllables_101 rfl (lv_at hl 3 rfl) ?_
                refine lv_iload_n hx hb dX10_readSyllables_102 rfl (lv_at hl 0 rfl) ?_
                refine lv_bipush (v := zI 79) hx hb dX10_readSyllables_103 (by decide) ?_
                refine z_icmp_ne (tgt := 112) hx hb (by omega) (by omega) dX10_readSyllables_105 (by decide) (fun c15 => ?_) (fun c15 => False.elim (by omega))
                refine lv_iconst (v := zI 0) hx hb dX10_readSyllables_112 rfl ?_
                refine lv_iload_n hx hb dX10_readSyllables_113 rfl (lv_at hl 1 rfl) ?_
                refine k_Vv F w (As := [.int (zI 0), .int (zI v2_17)]) (rest := []) (a := a) (kd_lt (a := a) hka (by decide)) (sh_9 hka _ _) rfl (q_X9_addSyllable (a := a) hka (x := 0) (by omega) (x1 := v2_17) (by omega)  hIL17) gv_X10_63 hv_X9_addSyllable ⟨(Nat.le_of_ble_eq_true rfl), (Nat.le_of_ble_eq_true rfl)⟩ hl.1 rfl (Nat.le_of_ble_eq_true rfl) ⟨Nat.zero_le _, Nat.zero_le _⟩ dX10_readSyllables_114 (fun N17 H locs hp w => ?_)
                obtain ⟨hIN17, hFN17⟩ := hp
                have hGN17 := Fr.tr hFL17 hFN17 (S := (fun b9 k9 => (b9 = 3 ∧ k9 = 1) ∨ b9 = a)) (fun b k h => by (try dsimp only at h ⊢); (repeat' (refine Or.elim h ?_ ?_ <;> clear h <;> intro h)); all_goals first | (obtain ⟨rfl, rfl⟩ := h; decide) | (subst h; decide) | omega)
                have kn19 : N17.1 3 1 = zI g3_1_17 := (hFN17 3 1 (by have := w_ap hka; first | omega | (dsimp only; omega))).trans (eg3_1_17)
                have kn20 : N17.1 1 1 = zI z5 := (hFN17 1 1 (by have := w_ap hka; first | omega | (dsimp only; omega))).trans (ez5)
                refine lv_iconst (v := zI 0) hx hb dX10_readSyllables_117 rfl ?_
                refine lv_istore_n (lv' := [(2, .int (zI 0)), (3, .int (zI z9)), (0, .ref (B + 3)), (1, .ref (B + a))]) hx hb dX10_readSyllables_118 rfl hl (by decide) rfl (fun ls hl => ?_)
                refine lv_goto (tgt := 124) hx hb dX10_readSyllables_119 (by decide) ?_
                refine lv_aload_n hx hb dX10_readSyllables_124 rfl (lv_at hl 2 rfl) ?_
                refine lv_aload_n hx hb dX10_readSyllables_125 rfl (lv_at hl 2 rfl) ?_
                refine f_10_0 F w (a := 3) rfl tb_432 dX10_readSyllables_126 ?_
                refine lv_aload_n hx hb dX10_readSyllables_129 rfl (lv_at hl 2 rfl) ?_
                refine f_10_1 F w (a := 3) rfl tb_433 dX10_readSyllables_130 ?_
                refine r_val (v := zI g3_1_17) (kn19) ?_
                refine lv_iconst (v := zI 1) hx hb dX10_readSyllables_133 rfl ?_
                refine z_iadd (z := (g3_1_17 + 1)) hx hb dX10_readSyllables_134 (by omega) ?_
                refine k_Vi F w (As := [.int (zI (g3_1_17 + 1))]) (rest := [.ref (B + 3)]) (a := 1) (kd_lt (a := 1) (show kd 1 = (8, 0, 0) from rfl) (by decide)) (sh_8 rfl _ _) rfl (q_X8_skipBlanks (x := (g3_1_17 + 1)) (by omega)  hIN17) gv_X10_34 hv_X8_skipBlanks ⟨(Nat.le_of_ble_eq_true rfl), (Nat.le_of_ble_eq_true rfl)⟩ hl.1 rfl (Nat.le_of_ble_eq_true rfl) ⟨Nat.zero_le _, Nat.zero_le _⟩ dX10_readSyllables_135 (fun r21 N22 H locs hp w => ?_)
                obtain ⟨z23, rfl, bz23, xz23, hMN22⟩ := hp
                rw [hMN22] at w
                refine u_10_1 F w (a := 3) rfl tb_433 dX10_readSyllables_138 (fun H locs w => ?_)
                refine lv_goto (tgt := 17) hx hb dX10_readSyllables_141 (by decide) ?_
                exact ih17 0 z23 (st N17 3 1 (zI z23)) (by omega) (by omega) (st_at)  (Inv.to hIN17 (a := 3) (k := 1) (x := z23) (show iv 3 1 = ((-2147483648), 2147483647) from rfl) (by omega)) (Fr.to hGN17 (by first | omega | (dsimp only; first | done | omega))) (by omega) _ _ _ w (lv_sub hl [0, 2, 3] rfl)
            · refine lv_iload_n hx hb dX10_readSyllables_86 rfl (lv_at hl 0 rfl) ?_
              refine lv_bipush (v := zI 79) hx hb dX10_readSyllables_87 (by decide) ?_
              refine z_icmp_ne (tgt := 122) hx hb (by omega) (by omega) dX10_readSyllables_89 (by decide) (fun c24 => ?_) (fun c24 => ?_)
              · refine lv_iconst (v := zI 0) hx hb dX10_readSyllables_122 rfl ?_
                rw [hQ]
                exact e_z F w hr hlocks (nar_z (by omega)) ⟨_, rfl, (by omega), hIL17, hFL17⟩ dX10_readSyllables_123
              · refine lv_aload_n hx hb dX10_readSyllables_92 rfl (lv_at hl 3 rfl) ?_
                refine f_9_1 F w (a := a) hka tb_447 dX10_readSyllables_93 ?_
                obtain ⟨z25, bz25, ez25⟩ := Inv.ld (k := 1) hIL17 (iv_w1 hka) (by have := lt_w hka; omega)
                refine r_val ez25 ?_
                refine lv_bipush (v := zI 12) hx hb dX10_readSyllables_96 (by decide) ?_
                refine z_icmp_ge (tgt := 122) hx hb (by omega) (by omega) dX10_readSyllables_98 (by decide) (fun c26 => ?_) (fun c26 => ?_)
                · refine lv_iconst (v := zI 0) hx hb dX10_readSyllables_122 rfl ?_
                  rw [hQ]
                  exact e_z F w hr hlocks (nar_z (by omega)) ⟨_, rfl, (by omega), hIL17, hFL17⟩ dX10_readSyllables_123
                · refine lv_aload_n hx hb dX10_readSyllables_101 rfl (lv_at hl 3 rfl) ?_
                  refine lv_iload_n hx hb dX10_readSyllables_102 rfl (lv_at hl 0 rfl) ?_
                  refine lv_bipush (v := zI 79) hx hb dX10_readSyllables_103 (by decide) ?_
                  refine z_icmp_ne (tgt := 112) hx hb (by omega) (by omega) dX10_readSyllables_105 (by decide) (fun c27 => False.elim (by omega)) (fun c27 => ?_)
                  refine lv_iconst (v := zI 1) hx hb dX10_readSyllables_108 rfl ?_
                  refine lv_goto (tgt := 113) hx hb dX10_readSyllables_109 (by decide) ?_
                  refine lv_iload_n hx hb dX10_readSyllables_113 rfl (lv_at hl 1 rfl) ?_
                  refine k_Vv F w (As := [.int (zI 1), .int (zI v2_17)]) (rest := []) (a := a) (kd_lt (a := a) hka (by decide)) (sh_9 hka _ _) rfl (q_X9_addSyllable (a := a) hka (x := 1) (by omega) (x1 := v2_17) (by omega)  hIL17) gv_X10_63 hv_X9_addSyllable ⟨(Nat.le_of_ble_eq_true rfl), (Nat.le_of_ble_eq_true rfl)⟩ hl.1 rfl (Nat.le_of_ble_eq_true rfl) ⟨Nat.zero_le _, Nat.zero_le _⟩ dX10_readSyllables_114 (fun N29 H locs hp w => ?_)
                  obtain ⟨hIN29, hFN29⟩ := hp
                  have hGN29 := Fr.tr hFL17 hFN29 (S := (fun b9 k9 => (b9 = 3 ∧ k9 = 1) ∨ b9 = a)) (fun b k h => by (try dsimp only at h ⊢); (repeat' (refine Or.elim h ?_ ?_ <;> clear h <;> intro h)); all_goals first | (obtain ⟨rfl, rfl⟩ := h; decide) | (subst h; decide) | omega)
                  have kn31 : N29.1 3 1 = zI g3_1_17 := (hFN29 3 1 (by have := w_ap hka; first | omega | (dsimp only; omega))).trans (eg3_1_17)
                  have kn32 : N29.1 1 1 = zI z5 := (hFN29 1 1 (by have := w_ap hka; first | omega | (dsimp only; omega))).trans (ez5)
                  refine lv_iconst (v := zI 0) hx hb dX10_readSyllables_117 rfl ?_
                  refine lv_istore_n (lv' := [(2, .int (zI 0)), (3, .int (zI z9)), (0, .ref (B + 3)), (1, .ref (B + a))]) hx hb dX10_readSyllables_118 rfl hl (by decide) rfl (fun ls hl => ?_)
                  refine lv_goto (tgt := 124) hx hb dX10_readSyllables_119 (by decide) ?_
                  refine lv_aload_n hx hb dX10_readSyllables_124 rfl (lv_at hl 2 rfl) ?_
                  refine lv_aload_n hx hb dX10_readSyllables_125 rfl (lv_at hl 2 rfl) ?_
                  refine f_10_0 F w (a := 3) rfl tb_432 dX10_readSyllables_126 ?_
                  refine lv_aload_n hx hb dX10_readSyllables_129 rfl (lv_at hl 2 rfl) ?_
                  refine f_10_1 F w (a := 3) rfl tb_433 dX10_readSyllables_130 ?_
                  refine r_val (v := zI g3_1_17) (kn31) ?_
                  refine lv_iconst (v := zI 1) hx hb dX10_readSyllables_133 rfl ?_
                  refine z_iadd (z := (g3_1_17 + 1)) hx hb dX10_readSyllables_134 (by omega) ?_
                  refine k_Vi F w (As := [.int (zI (g3_1_17 + 1))]) (rest := [.ref (B + 3)]) (a := 1) (kd_lt (a := 1) (show kd 1 = (8, 0, 0) from rfl) (by decide)) (sh_8 rfl _ _) rfl (q_X8_skipBlanks (x := (g3_1_17 + 1)) (by omega)  hIN29) gv_X10_34 hv_X8_skipBlanks ⟨(Nat.le_of_ble_eq_true rfl), (Nat.le_of_ble_eq_true rfl)⟩ hl.1 rfl (Nat.le_of_ble_eq_true rfl) ⟨Nat.zero_le _, Nat.zero_le _⟩ dX10_readSyllables_135 (fun r33 N34 H locs hp w => ?_)
                  obtain ⟨z35, rfl, bz35, xz35, hMN34⟩ := hp
                  rw [hMN34] at w
                  refine u_10_1 F w (a := 3) rfl tb_433 dX10_readSyllables_138 (fun H locs w => ?_)
                  refine lv_goto (tgt := 17) hx hb dX10_readSyllables_141 (by decide) ?_
                  exact ih17 0 z35 (st N29 3 1 (zI z35)) (by omega) (by omega) (st_at)  (Inv.to hIN29 (a := 3) (k := 1) (x := z35) (show iv 3 1 = ((-2147483648), 2147483647) from rfl) (by omega)) (Fr.to hGN29 (by first | omega | (dsimp only; first | done | omega))) (by omega) _ _ _ w (lv_sub hl [0, 2, 3] rfl)
          · refine lv_iload_n hx hb dX10_readSyllables_71 rfl (lv_at hl 1 rfl) ?_
            refine z_if_ne (tgt := 80) hx hb (by omega) dX10_readSyllables_72 (by decide) (fun c36 => ?_) (fun c36 => ?_)
            · refine lv_iload_n hx hb dX10_readSyllables_80 rfl (lv_at hl 0 rfl) ?_
              refine lv_bipush (v := zI 111) hx hb dX10_readSyllables_81 (by decide) ?_
              refine z_icmp_eq (tgt := 92) hx hb (by omega) (by omega) dX10_readSyllables_83 (by decide) (fun c37 => False.elim (by omega)) (fun c37 => ?_)
              refine lv_iload_n hx hb dX10_readSyllables_86 rfl (lv_at hl 0 rfl) ?_
              refine lv_bipush (v := zI 79) hx hb dX10_readSyllables_87 (by decide) ?_
              refine z_icmp_ne (tgt := 122) hx hb (by omega) (by omega) dX10_readSyllables_89 (by decide) (fun c38 => ?_) (fun c38 => False.elim (by omega))
              refine lv_iconst (v := zI 0) hx hb dX10_readSyllables_122 rfl ?_
              rw [hQ]
              exact e_z F w hr hlocks (nar_z (by omega)) ⟨_, rfl, (by omega), hIL17, hFL17⟩ dX10_readSyllables_123
            · refine lv_iconst (v := zI 1) hx hb dX10_readSyllables_75 rfl ?_
              refine lv_istore_n (lv' := [(2, .int (zI 1)), (3, .int (zI z9)), (0, .ref (B + 3)), (1, .ref (B + a))]) hx hb dX10_readSyllables_76 rfl hl (by decide) rfl (fun ls hl => ?_)
              refine lv_goto (tgt := 124) hx hb dX10_readSyllables_77 (by decide) ?_
              refine lv_aload_n hx hb dX10_readSyllables_124 rfl (lv_at hl 2 rfl) ?_
              refine lv_aload_n hx hb dX10_readSyllables_125 rfl (lv_at hl 2 rfl) ?_
              refine f_10_0 F w (a := 3) rfl tb_432 dX10_readSyllables_126 ?_
              refine lv_aload_n hx hb dX10_readSyllables_129 rfl (lv_at hl 2 rfl) ?_
              refine f_10_1 F w (a := 3) rfl tb_433 dX10_readSyllables_130 ?_
              refine r_val (v := zI g3_1_17) (eg3_1_17) ?_
              refine lv_iconst (v := zI 1) hx hb dX10_readSyllables_133 rfl ?_
              refine z_iadd (z := (g3_1_17 + 1)) hx hb dX10_readSyllables_134 (by omega) ?_
              refine k_Vi F w (As := [.int (zI (g3_1_17 + 1))]) (rest := [.ref (B + 3)]) (a := 1) (kd_lt (a := 1) (show kd 1 = (8, 0, 0) from rfl) (by decide)) (sh_8 rfl _ _) rfl (q_X8_skipBlanks (x := (g3_1_17 + 1)) (by omega)  hIL17) gv_X10_34 hv_X8_skipBlanks ⟨(Nat.le_of_ble_eq_true rfl), (Nat.le_of_ble_eq_true rfl)⟩ hl.1 rfl (Nat.le_of_ble_eq_true rfl) ⟨Nat.zero_le _, Nat.zero_le _⟩ dX10_readSyllables_135 (fun r39 N40 H locs hp w => ?_)
              obtain ⟨z41, rfl, bz41, xz41, hMN40⟩ := hp
              rw [hMN40] at w
              refine u_10_1 F w (a := 3) rfl tb_433 dX10_readSyllables_138 (fun H locs w => ?_)
              refine lv_goto (tgt := 17) hx hb dX10_readSyllables_141 (by decide) ?_
              exact ih17 1 z41 (st NL17 3 1 (zI z41)) (by omega) (by omega) (st_at)  (Inv.to hIL17 (a := 3) (k := 1) (x := z41) (show iv 3 1 = ((-2147483648), 2147483647) from rfl) (by omega)) (Fr.to hFL17 (by first | omega | (dsimp only; first | done | omega))) (by omega) _ _ _ w (lv_sub hl [0, 2, 3] rfl)
        · refine lv_iload_n hx hb dX10_readSyllables_49 rfl (lv_at hl 1 rfl) ?_
          refine z_if_ne (tgt := 65) hx hb (by omega) dX10_readSyllables_50 (by decide) (fun c42 => ?_) (fun c42 => ?_)
          · refine lv_iload_n hx hb dX10_readSyllables_65 rfl (lv_at hl 0 rfl) ?_
            refine lv_bipush (v := zI 45) hx hb dX10_readSyllables_66 (by decide) ?_
            refine z_icmp_ne (tgt := 80) hx hb (by omega) (by omega) dX10_readSyllables_68 (by decide) (fun c43 => ?_) (fun c43 => False.elim (by omega))
            refine lv_iload_n hx hb dX10_readSyllables_80 rfl (lv_at hl 0 rfl) ?_
            refine lv_bipush (v := zI 111) hx hb dX10_readSyllables_81 (by decide) ?_
            refine z_icmp_eq (tgt := 92) hx hb (by omega) (by omega) dX10_readSyllables_83 (by decide) (fun c44 => False.elim (by omega)) (fun c44 => ?_)
            refine lv_iload_n hx hb dX10_readSyllables_86 rfl (lv_at hl 0 rfl) ?_
            refine lv_bipush (v := zI 79) hx hb dX10_readSyllables_87 (by decide) ?_
            refine z_icmp_ne (tgt := 122) hx hb (by omega) (by omega) dX10_readSyllables_89 (by decide) (fun c45 => ?_) (fun c45 => False.elim (by omega))
            refine lv_iconst (v := zI 0) hx hb dX10_readSyllables_122 rfl ?_
            rw [hQ]
            exact e_z F w hr hlocks (nar_z (by omega)) ⟨_, rfl, (by omega), hIL17, hFL17⟩ dX10_readSyllables_123
          · refine lv_aload_n hx hb dX10_readSyllables_53 rfl (lv_at hl 2 rfl) ?_
            refine lv_dup hx hb dX10_readSyllables_54 rfl ?_
            refine f_10_1 F w (a := 3) rfl tb_433 dX10_readSyllables_55 ?_
            refine r_val (v := zI g3_1_17) (eg3_1_17) ?_
            refine lv_iconst (v := zI 1) hx hb dX10_readSyllables_58 rfl ?_
            refine z_iadd (z := (g3_1_17 + 1)) hx hb dX10_readSyllables_59 (by omega) ?_
            refine u_10_1 F w (a := 3) rfl tb_433 dX10_readSyllables_60 (fun H locs w => ?_)
            refine lv_iconst (v := zI 1) hx hb dX10_readSyllables_63 rfl ?_
            rw [hQ]
            exact e_z F w hr hlocks (nar_z (by omega)) ⟨_, rfl, (by omega), (Inv.to hIL17 (a := 3) (k := 1) (x := (g3_1_17 + 1)) (show iv 3 1 = ((-2147483648), 2147483647) from rfl) (by omega)), (Fr.to hFL17 (by first | omega | (dsimp only; first | done | omega)))⟩ dX10_readSyllables_64
  exact lp17 _ 0 z4 (st M 3 1 (zI z4)) (by omega) (by omega) (st_at) (Inv.to hI (a := 3) (k := 1) (x := z4) (show iv 3 1 = ((-2147483648), 2147483647) from rfl) (by omega)) (Fr.to hF (by first | omega | (dsimp only; first | done | omega))) (Nat.lt_succ_self _) _ _ _ w (lv_sub hl [0, 1, 2] rfl)
theorem dX10_readLines_0 : decode cX10_readLines 0 = .ok (.aload_n 0, 1) := udX10_readLines_0
theorem dX10_readLines_1 : decode cX10_readLines 1 = .ok (.aload_n 0, 1) := udX10_readLines_1
theorem dX10_readLines_2 : decode cX10_readLines 2 = .ok (.getfield 15, 3) := udX10_readLines_2
theorem dX10_readLines_5 : decode cX10_readLines 5 = .ok (.aload_n 0, 1) := udX10_readLines_5
theorem dX10_readLines_6 : decode cX10_readLines 6 = .ok (.getfield 9, 3) := udX10_readLines_6
theorem dX10_readLines_9 : decode cX10_readLines 9 = .ok (.invokevirtual 34, 3) := udX10_readLines_9
theorem dX10_readLines_12 : decode cX10_readLines 12 = .ok (.putfield 9, 3) := udX10_readLines_12
theorem dX10_readLines_15 : decode cX10_readLines 15 = .ok (.iconst 0, 1) := udX10_readLines_15
theorem dX10_readLines_16 : decode cX10_readLines 16 = .ok (.istore_n 2, 1) := udX10_readLines_16
theorem dX10_readLines_17 : decode cX10_readLines 17 = .ok (.aload_n 0, 1) := udX10_readLines_17
theorem dX10_readLines_18 : decode cX10_readLines 18 = .ok (.getfield 9, 3) := udX10_readLines_18
theorem dX10_readLines_21 : decode cX10_readLines 21 = .ok (.aload_n 0, 1) := udX10_readLines_21
theorem dX10_readLines_22 : decode cX10_readLines 22 = .ok (.getfield 15, 3) := udX10_readLines_22
theorem dX10_readLines_25 : decode cX10_readLines 25 = .ok (.getfield 40, 3) := udX10_readLines_25
theorem dX10_readLines_28 : decode cX10_readLines 28 = .ok (.if_icmp .ge 143, 3) := udX10_readLines_28
theorem dX10_readLines_171 : decode cX10_readLines 171 = .ok (.iconst 1, 1) := udX10_readLines_171
theorem dX10_readLines_172 : decode cX10_readLines 172 = .ok (.ireturn, 1) := udX10_readLines_172
theorem dX10_readLines_31 : decode cX10_readLines 31 = .ok (.iload_n 2, 1) := udX10_readLines_31
theorem dX10_readLines_32 : decode cX10_readLines 32 = .ok (.sipush 300, 3) := udX10_readLines_32
theorem dX10_readLines_35 : decode cX10_readLines 35 = .ok (.if_icmp .ge 136, 3) := udX10_readLines_35
theorem dX10_readLines_38 : decode cX10_readLines 38 = .ok (.aload_n 0, 1) := udX10_readLines_38
theorem dX10_readLines_39 : decode cX10_readLines 39 = .ok (.getfield 9, 3) := udX10_readLines_39
theorem dX10_readLines_42 : decode cX10_readLines 42 = .ok (.istore_n 3, 1) := udX10_readLines_42
theorem dX10_readLines_43 : decode cX10_readLines 43 = .ok (.aload_n 0, 1) := udX10_readLines_43
theorem dX10_readLines_44 : decode cX10_readLines 44 = .ok (.aload_n 1, 1) := udX10_readLines_44
theorem dX10_readLines_45 : decode cX10_readLines 45 = .ok (.getfield 53, 3) := udX10_readLines_45
theorem dX10_readLines_48 : decode cX10_readLines 48 = .ok (.invokevirtual 67, 3) := udX10_readLines_48
theorem tk_X10_readNumber : Cond.code yX10_readNumber cX10_readNumber 5 (some .int) ∈ TB := utk_X10_readNumber
theorem gc_X10_readNumber : GoodIn TB (cw yX10_readNumber cX10_readNumber 5 (some .int)) := goodIn_c2 tk_X10_readNumber
theorem tb_449 : Cond.methodLink "ToneLines$WordReader" 67 yX10_readNumber ∈ TB := utb_49
theorem tb_450 : Cond.instanceMethod yX10_readNumber ∈ TB := utb_50
theorem tb_451 : Cond.selects "ToneLines$WordReader" yX10_readNumber yX10_readNumber ∈ TB := utb_51
theorem tb_452 : Cond.initialized "ToneLines$WordReader" ∈ TB := utb_52
theorem gv_X10_67 : GoodIn TB (wsV RX10 67 RX10 yX10_readNumber (cw yX10_readNumber cX10_readNumber 5 (some .int))) := goodIn_4 tb_449 tb_450 tb_451 tb_452 gc_X10_readNumber
theorem hv_X10_readNumber : yX10_readNumber.cls = RX10 ∧ yX10_readNumber.cls ≠ "java/lang/invoke/MethodHandle" ∧ yX10_readNumber.cls ≠ "java/lang/invoke/VarHandle" ∧ (parseMethodDescriptor yX10_readNumber.desc).map (fun d => d.parameters.length) = some 1 := uhv_X10_readNumber
theorem dX10_readLines_51 : decode cX10_readLines 51 = .ok (.istore 4, 2) := udX10_readLines_51
theorem dX10_readLines_53 : decode cX10_readLines 53 = .ok (.iload 4, 2) := udX10_readLines_53
theorem dX10_readLines_55 : decode cX10_readLines 55 = .ok (.iconst (-1), 1) := udX10_readLines_55
theorem dX10_readLines_56 : decode cX10_readLines 56 = .ok (.if_icmp .eq 10, 3) := udX10_readLines_56
theorem dX10_readLines_66 : decode cX10_readLines 66 = .ok (.iconst 0, 1) := udX10_readLines_66
theorem dX10_readLines_67 : decode cX10_readLines 67 = .ok (.ireturn, 1) := udX10_readLines_67
theorem dX10_readLines_59 : decode cX10_readLines 59 = .ok (.aload_n 0, 1) := udX10_readLines_59
theorem dX10_readLines_60 : decode cX10_readLines 60 = .ok (.invokevirtual 70, 3) := udX10_readLines_60
theorem tk_X10_readColon : Cond.code yX10_readColon cX10_readColon 1 (some .boolean) ∈ TB := utk_X10_readColon
theorem gc_X10_readColon : GoodIn TB (cw yX10_readColon cX10_readColon 1 (some .boolean)) := goodIn_c2 tk_X10_readColon
theorem tb_453 : Cond.methodLink "ToneLines$WordReader" 70 yX10_readColon ∈ TB := utb_53
theorem tb_454 : Cond.instanceMethod yX10_readColon ∈ TB := utb_54
theorem tb_455 : Cond.selects "ToneLines$WordReader" yX10_readColon yX10_readColon ∈ TB := utb_55
theorem gv_X10_70 : GoodIn TB (wsV RX10 70 RX10 yX10_readColon (cw yX10_readColon cX10_readColon 1 (some .boolean))) := goodIn_4 tb_453 tb_454 tb_455 tb_452 gc_X10_readColon
theorem hv_X10_readColon : yX10_readColon.cls = RX10 ∧ yX10_readColon.cls ≠ "java/lang/invoke/MethodHandle" ∧ yX10_readColon.cls ≠ "java/lang/invoke/VarHandle" ∧ (parseMethodDescriptor yX10_readColon.desc).map (fun d => d.parameters.length) = some 0 := uhv_X10_readColon
theorem dX10_readLines_63 : decode cX10_readLines 63 = .ok (.ifCond .ne 5, 3) := udX10_readLines_63
theorem dX10_readLines_68 : decode cX10_readLines 68 = .ok (.aload_n 0, 1) := udX10_readLines_68
theorem dX10_readLines_69 : decode cX10_readLines 69 = .ok (.aload_n 1, 1) := udX10_readLines_69
theorem dX10_readLines_70 : decode cX10_readLines 70 = .ok (.getfield 60, 3) := udX10_readLines_70
theorem dX10_readLines_73 : decode cX10_readLines 73 = .ok (.invokevirtual 67, 3) := udX10_readLines_73
theorem dX10_readLines_76 : decode cX10_readLines 76 = .ok (.istore 5, 2) := udX10_readLines_76
theorem dX10_readLines_78 : decode cX10_readLines 78 = .ok (.iload 5, 2) := udX10_readLines_78
theorem dX10_readLines_80 : decode cX10_readLines 80 = .ok (.iconst (-1), 1) := udX10_readLines_80
theorem dX10_readLines_81 : decode cX10_readLines 81 = .ok (.if_icmp .ne 5, 3) := udX10_readLines_81
theorem dX10_readLines_86 : decode cX10_readLines 86 = .ok (.aload_n 1, 1) := udX10_readLines_86
theorem dX10_readLines_87 : decode cX10_readLines 87 = .ok (.iload 4, 2) := udX10_readLines_87
theorem dX10_readLines_89 : decode cX10_readLines 89 = .ok (.iload 5, 2) := udX10_readLines_89
theorem dX10_readLines_91 : decode cX10_readLines 91 = .ok (.invokevirtual 74, 3) := udX10_readLines_91
theorem tb_456 : Cond.methodLink "ToneLines$WordReader" 74 yX9_isOpen ∈ TB := utb_56
theorem gv_X10_74 : GoodIn TB (wsV RX10 74 RX9 yX9_isOpen (cw yX9_isOpen cX9_isOpen 3 (some .boolean))) := goodIn_4 tb_456 tb_67 tb_68 tb_5 gc_X9_isOpen
theorem dX10_readLines_94 : decode cX10_readLines 94 = .ok (.ifCond .ne 10, 3) := udX10_readLines_94
theorem dX10_readLines_104 : decode cX10_readLines 104 = .ok (.aload_n 1, 1) := udX10_readLines_104
theorem dX10_readLines_105 : decode cX10_readLines 105 = .ok (.getfield 78, 3) := udX10_readLines_105
theorem tb_457 : Cond.fieldLink "ToneLines$WordReader" 78 "ToneLines$Word" "lines" "[I" ∈ TB := utb_59
theorem dX10_readLines_108 : decode cX10_readLines 108 = .ok (.iload 4, 2) := udX10_readLines_108
theorem dX10_readLines_110 : decode cX10_readLines 110 = .ok (.dup2, 1) := udX10_readLines_110
theorem dX10_readLines_111 : decode cX10_readLines 111 = .ok (.iaload, 1) := udX10_readLines_111
theorem dX10_readLines_112 : decode cX10_readLines 112 = .ok (.iconst 1, 1) := udX10_readLines_112
theorem dX10_readLines_113 : decode cX10_readLines 113 = .ok (.iload 5, 2) := udX10_readLines_113
theorem dX10_readLines_115 : decode cX10_readLines 115 = .ok (.ishl, 1) := udX10_readLines_115
theorem dX10_readLines_116 : decode cX10_readLines 116 = .ok (.ior, 1) := udX10_readLines_116
theorem dX10_readLines_117 : decode cX10_readLines 117 = .ok (.iastore, 1) := udX10_readLines_117
theorem dX10_readLines_118 : decode cX10_readLines 118 = .ok (.aload_n 0, 1) := udX10_readLines_118
theorem dX10_readLines_119 : decode cX10_readLines 119 = .ok (.getfield 9, 3) := udX10_readLines_119
theorem dX10_readLines_122 : decode cX10_readLines 122 = .ok (.aload_n 0, 1) := udX10_readLines_122
theorem dX10_readLines_123 : decode cX10_readLines 123 = .ok (.getfield 15, 3) := udX10_readLines_123
theorem dX10_readLines_126 : decode cX10_readLines 126 = .ok (.getfield 40, 3) := udX10_readLines_126
theorem dX10_readLines_129 : decode cX10_readLines 129 = .ok (.if_icmp .ge 21, 3) := udX10_readLines_129
theorem dX10_readLines_150 : decode cX10_readLines 150 = .ok (.aload_n 0, 1) := udX10_readLines_150
theorem dX10_readLines_151 : decode cX10_readLines 151 = .ok (.aload_n 0, 1) := udX10_readLines_151
theorem dX10_readLines_152 : decode cX10_readLines 152 = .ok (.getfield 15, 3) := udX10_readLines_152
theorem dX10_readLines_155 : decode cX10_readLines 155 = .ok (.aload_n 0, 1) := udX10_readLines_155
theorem dX10_readLines_156 : decode cX10_readLines 156 = .ok (.getfield 9, 3) := udX10_readLines_156
theorem dX10_readLines_159 : decode cX10_readLines 159 = .ok (.invokevirtual 34, 3) := udX10_readLines_159
theorem dX10_readLines_162 : decode cX10_readLines 162 = .ok (.putfield 9, 3) := udX10_readLines_162
theorem dX10_readLines_165 : decode cX10_readLines 165 = .ok (.iinc 2 1, 3) := udX10_readLines_165
theorem dX10_readLines_168 : decode cX10_readLines 168 = .ok (.goto (-151), 3) := udX10_readLines_168
theorem dX10_readLines_132 : decode cX10_readLines 132 = .ok (.aload_n 0, 1) := udX10_readLines_132
theorem dX10_readLines_133 : decode cX10_readLines 133 = .ok (.getfield 15, 3) := udX10_readLines_133
theorem dX10_readLines_136 : decode cX10_readLines 136 = .ok (.aload_n 0, 1) := udX10_readLines_136
theorem dX10_readLines_137 : decode cX10_readLines 137 = .ok (.getfield 9, 3) := udX10_readLines_137
theorem dX10_readLines_140 : decode cX10_readLines 140 = .ok (.invokevirtual 43, 3) := udX10_readLines_140
theorem dX10_readLines_143 : decode cX10_readLines 143 = .ok (.bipush 32, 2) := udX10_readLines_143
theorem dX10_readLines_145 : decode cX10_readLines 145 = .ok (.if_icmp .eq 5, 3) := udX10_readLines_145
theorem dX10_readLines_148 : decode cX10_readLines 148 = .ok (.iconst 0, 1) := udX10_readLines_148
theorem dX10_readLines_149 : decode cX10_readLines 149 = .ok (.ireturn, 1) := udX10_readLines_149
theorem dX10_readLines_97 : decode cX10_readLines 97 = .ok (.aload_n 0, 1) := udX10_readLines_97
theorem dX10_readLines_98 : decode cX10_readLines 98 = .ok (.iload_n 3, 1) := udX10_readLines_98
theorem dX10_readLines_99 : decode cX10_readLines 99 = .ok (.putfield 9, 3) := udX10_readLines_99
theorem dX10_readLines_102 : decode cX10_readLines 102 = .ok (.iconst 0, 1) := udX10_readLines_102
theorem dX10_readLines_103 : decode cX10_readLines 103 = .ok (.ireturn, 1) := udX10_readLines_103
theorem dX10_readLines_84 : decode cX10_readLines 84 = .ok (.iconst 0, 1) := udX10_readLines_84
theorem dX10_readLines_85 : decode cX10_readLines 85 = .ok (.ireturn, 1) := udX10_readLines_85
set_option maxRecDepth 4000 in
theorem q_X10_readLines {l : Launch} {D : va_G} {B : Nat} {cy : Nat → ClassId} {M : Mem} {a : Nat} (hka : kd a = (9, 0, 0)) (hI : Inv M) : Ci l D B cy yX10_readLines cX10_readLines 6 (some .boolean) 2 48 [.ref (B + 3), .ref (B + a)] M (fun r M1 => ∃ z : Int, r = zI z ∧ (0 ≤ z ∧ z ≤ 1) ∧ Inv M1 ∧ Fr (fun b9 k9 => (b9 = 3 ∧ k9 = 1) ∨ b9 = (a + 2)) M1 M) := by
  refine s_anyQ (by decide) (Nat.le_of_ble_eq_true rfl) ?_
  intro p e s m args below meth c ls Q F hr hlocks hQ w hl
  have F : CallFix p m c cX10_readLines 6 s args TB RX10 := F
  have hx := F.1
  have hb := F.2.1
  have hl : lv_has ls 6 [(0, .ref (B + 3)), (1, .ref (B + a))] := hl
  have hF : Fr (fun b9 k9 => (b9 = 3 ∧ k9 = 1) ∨ b9 = (a + 2)) M M := Fr.rf
  refine lv_aload_n hx hb dX10_readLines_0 rfl (lv_at hl 0 rfl) ?_
  refine lv_aload_n hx hb dX10_readLines_1 rfl (lv_at hl 0 rfl) ?_
  refine f_10_0 F w (a := 3) rfl tb_432 dX10_readLines_2 ?_
  refine lv_aload_n hx hb dX10_readLines_5 rfl (lv_at hl 0 rfl) ?_
  refine f_10_1 F w (a := 3) rfl tb_433 dX10_readLines_6 ?_
  obtain ⟨z1, bz1, ez1⟩ := Inv.ld (k := 1) hI (show iv 3 1 = ((-2147483648), 2147483647) from rfl) (show 3 < 146 by decide)
  refine r_val ez1 ?_
  refine k_Vi F w (As := [.int (zI z1)]) (rest := [.ref (B + 3)]) (a := 1) (kd_lt (a := 1) (show kd 1 = (8, 0, 0) from rfl) (by decide)) (sh_8 rfl _ _) rfl (q_X8_skipBlanks (x := z1) (by omega)  hI) gv_X10_34 hv_X8_skipBlanks ⟨(Nat.le_of_ble_eq_true rfl), (Nat.le_of_ble_eq_true rfl)⟩ hl.1 rfl (Nat.le_of_ble_eq_true rfl) ⟨Nat.zero_le _, Nat.zero_le _⟩ dX10_readLines_9 (fun r2 N3 H locs hp w => ?_)
  obtain ⟨z4, rfl, bz4, xz4, hMN3⟩ := hp
  rw [hMN3] at w
  refine u_10_1 F w (a := 3) rfl tb_433 dX10_readLines_12 (fun H locs w => ?_)
  refine lv_iconst (v := zI 0) hx hb dX10_readLines_15 rfl ?_
  refine lv_istore_n (lv' := [(2, .int (zI 0)), (0, .ref (B + 3)), (1, .ref (B + a))]) hx hb dX10_readLines_16 rfl hl (by decide) rfl (fun ls hl => ?_)
  have lp17 : ∀ (f : Nat) (v2_17 : Int) (g3_1_17 : Int) (NL17 : Mem), (0 ≤ v2_17 ∧ v2_17 ≤ 300) → ((-2147483648) ≤ g3_1_17 ∧ g3_1_17 ≤ 2147483647) → NL17.1 3 1 = zI g3_1_17 → Inv NL17 → Fr (fun b9 k9 => (b9 = 3 ∧ k9 = 1) ∨ b9 = (a + 2)) NL17 M → (Int.toNat (300 - v2_17) < f) → ∀ (H : Heap) (locs : List Loc) (ls : Array Slot), Wd D B cy s s.heap NL17 H locs → lv_has ls 6 [(2, .int (zI v2_17)), (0, .ref (B + 3)), (1, .ref (B + a))] → W p l e (rmm 2 48) s m args below meth c H locs 0 0 Q (F0 m 17 ls []) := by
    intro f
    induction f with
    | zero => intros; omega
    | succ f ih17 =>
      intro v2_17 g3_1_17 NL17 iv2_17 ig3_1_17 eg3_1_17 hIL17 hFL17 hf17 H locs ls w hl
      refine lv_aload_n hx hb dX10_readLines_17 rfl (lv_at hl 1 rfl) ?_
      refine f_10_1 F w (a := 3) rfl tb_433 dX10_readLines_18 ?_
      refine r_val (v := zI g3_1_17) (eg3_1_17) ?_
      refine lv_aload_n hx hb dX10_readLines_21 rfl (lv_at hl 1 rfl) ?_
      refine f_10_0 F w (a := 3) rfl tb_432 dX10_readLines_22 ?_
      refine f_8_1 F w (a := 1) rfl tb_441 dX10_readLines_25 ?_
      obtain ⟨z5, bz5, ez5⟩ := Inv.ld (k := 1) hIL17 (show iv 1 1 = (0, 300) from rfl) (show 1 < 146 by decide)
      refine r_val ez5 ?_
      refine z_icmp_ge (tgt := 171) hx hb (by omega) (by omega) dX10_readLines_28 (by decide) (fun c6 => ?_) (fun c6 => ?_)
      · refine lv_iconst (v := zI 1) hx hb dX10_readLines_171 rfl ?_
        rw [hQ]
        exact e_z F w hr hlocks (nar_z (by omega)) ⟨_, rfl, (by omega), hIL17, hFL17⟩ dX10_readLines_172
      · refine lv_iload_n hx hb dX10_readLines_31 rfl (lv_at hl 0 rfl) ?_
        refine lv_sipush (v := zI 300) hx hb dX10_readLines_32 (by decide) ?_
        refine z_icmp_ge (tgt := 171) hx hb (by omega) (by omega) dX10_readLines_35 (by decide) (fun c7 => ?_) (fun c7 => ?_)
        · refine lv_iconst (v := zI 1) hx hb dX10_readLines_171 rfl ?_
          rw [hQ]
          exact e_z F w hr hlocks (nar_z (by omega)) ⟨_, rfl, (by omega), hIL17, hFL17⟩ dX10_readLines_172
        · refine lv_aload_n hx hb dX10_readLines_38 rfl (lv_at hl 1 rfl) ?_
          refine f_10_1 F w (a := 3) rfl tb_433 dX10_readLines_39 ?_
          refine r_val (v := zI g3_1_17) (eg3_1_17) ?_
          refine lv_istore_n (lv' := [(3, .int (zI g3_1_17)), (2, .int (zI v2_17)), (0, .ref (B + 3)), (1, .ref (B + a))]) hx hb dX10_readLines_42 rfl hl (by decide) rfl (fun ls hl => ?_)
          refine lv_aload_n hx hb dX10_readLines_43 rfl (lv_at hl 2 rfl) ?_
          refine lv_aload_n hx hb dX10_readLines_44 rfl (lv_at hl 3 rfl) ?_
          refine f_9_0 F w (a := a) hka tb_445 dX10_readLines_45 ?_
          obtain ⟨z8, bz8, ez8⟩ := Inv.ld (k := 0) hIL17 (iv_w0 hka) (by have := lt_w hka; omega)
          refine r_val ez8 ?_
          refine k_Vi F w (As := [.int (zI z8)]) (rest := []) (a := 3) (kd_lt (a := 3) (show kd 3 = (10, 0, 0) from rfl) (by decide)) (sh_10 rfl _ _) rfl (q_X10_readNumber (x := z8) (by omega)  hIL17) gv_X10_67 hv_X10_readNumber ⟨(Nat.le_of_ble_eq_true rfl), (Nat.le_of_ble_eq_true rfl)⟩ hl.1 rfl (Nat.le_of_ble_eq_true rfl) ⟨Nat.zero_le _, Nat.zero_le _⟩ dX10_readLines_48 (fun r9 N10 H locs hp w => ?_)
          obtain ⟨z11, rfl, bz11, hIN10, hFN10⟩ := hp
          have hGN10 := Fr.tr hFL17 hFN10 (S := (fun b9 k9 => (b9 = 3 ∧ k9 = 1) ∨ b9 = (a + 2))) (fun b k h => by (try dsimp only at h ⊢); (repeat' (refine Or.elim h ?_ ?_ <;> clear h <;> intro h)); all_goals first | (obtain ⟨rfl, rfl⟩ := h; decide) | (subst h; decide) | omega)
          have kn12 : N10.1 1 1 = zI z5 := (hFN10 1 1 (by first | omega | (dsimp only; omega))).trans (ez5)
          have kn13 : N10.1 a 0 = zI z8 := (hFN10 a 0 (by have := w_ap hka; first | omega | (dsimp only; omega))).trans (ez8)
          refine lv_istore (lv' := [(4, .int (zI z11)), (3, .int (zI g3_1_17)), (2, .int (zI v2_17)), (0, .ref (B + 3)), (1, .ref (B + a))]) hx hb dX10_readLines_51 hl (by decide) rfl (fun ls hl => ?_)
          refine lv_iload hx hb dX10_readLines_53 (lv_at hl 0 rfl) ?_
          refine lv_iconst (v := zI (-1)) hx hb dX10_readLines_55 rfl ?_
          refine z_icmp_eq (tgt := 66) hx hb (by omega) (by omega) dX10_readLines_56 (by decide) (fun c14 => ?_) (fun c14 => ?_)
          · refine lv_iconst (v := zI 0) hx hb dX10_readLines_66 rfl ?_
            rw [hQ]
            exact e_z F w hr hlocks (nar_z (by omega)) ⟨_, rfl, (by omega), hIN10, hGN10⟩ dX10_readLines_67
          · refine lv_aload_n hx hb dX10_readLines_59 rfl (lv_at hl 3 rfl) ?_
            refine k_Vi F w (As := []) (rest := []) (a := 3) (kd_lt (a := 3) (show kd 3 = (10, 0, 0) from rfl) (by decide)) (sh_10 rfl _ _) rfl (q_X10_readColon   hIN10) gv_X10_70 hv_X10_readColon ⟨(Nat.le_of_ble_eq_true rfl), (Nat.le_of_ble_eq_true rfl)⟩ hl.1 rfl (Nat.le_of_ble_eq_true rfl) ⟨Nat.zero_le _, Nat.zero_le _⟩ dX10_readLines_60 (fun r15 N16 H locs hp w => ?_)
            obtain ⟨z17, rfl, bz17, hIN16, hFN16⟩ := hp
            have hGN16 := Fr.tr hGN10 hFN16 (S := (fun b9 k9 => (b9 = 3 ∧ k9 = 1) ∨ b9 = (a + 2))) (fun b k h => by (try dsimp only at h ⊢); (repeat' (refine Or.elim h ?_ ?_ <;> clear h <;> intro h)); all_goals first | (obtain ⟨rfl, rfl⟩ := h; decide) | (subst h; decide) | omega)
            have kn18 : N16.1 1 1 = zI z5 := (hFN16 1 1 (by first | omega | (dsimp only; omega))).trans (kn12)
            have kn19 : N16.1 a 0 = zI z8 := (hFN16 a 0 (by have := w_ap hka; first | omega | (dsimp only; omega))).trans (kn13)
            refine z_if_ne (tgt := 68) hx hb (by omega) dX10_readLines_63 (by decide) (fun c20 => ?_) (fun c20 => ?_)
            · refine lv_aload_n hx hb dX10_readLines_68 rfl (lv_at hl 3 rfl) ?_
              refine lv_aload_n hx hb dX10_readLines_69 rfl (lv_at hl 4 rfl) ?_
              refine f_9_1 F w (a := a) hka tb_447 dX10_readLines_70 ?_
              obtain ⟨z21, bz21, ez21⟩ := Inv.ld (k := 1) hIN16 (iv_w1 hka) (by have := lt_w hka; omega)
              refine r_val ez21 ?_
              refine k_Vi F w (As := [.int (zI z21)]) (rest := []) (a := 3) (kd_lt (a := 3) (show kd 3 = (10, 0, 0) from rfl) (by decide)) (sh_10 rfl _ _) rfl (q_X10_readNumber (x := z21) (by omega)  hIN16) gv_X10_67 hv_X10_readNumber ⟨(Nat.le_of_ble_eq_true rfl), (Nat.le_of_ble_eq_true rfl)⟩ hl.1 rfl (Nat.le_of_ble_eq_true rfl) ⟨Nat.zero_le _, Nat.zero_le _⟩ dX10_readLines_73 (fun r22 N23 H locs hp w => ?_)
              obtain ⟨z24, rfl, bz24, hIN23, hFN23⟩ := hp
              have hGN23 := Fr.tr hGN16 hFN23 (S := (fun b9 k9 => (b9 = 3 ∧ k9 = 1) ∨ b9 = (a + 2))) (fun b k h => by (try dsimp only at h ⊢); (repeat' (refine Or.elim h ?_ ?_ <;> clear h <;> intro h)); all_goals first | (obtain ⟨rfl, rfl⟩ := h; decide) | (subst h; decide) | omega)
              have kn25 : N23.1 1 1 = zI z5 := (hFN23 1 1 (by first | omega | (dsimp only; omega))).trans (kn18)
              have kn26 : N23.1 a 0 = zI z8 := (hFN23 a 0 (by have := w_ap hka; first | omega | (dsimp only; omega))).trans (kn19)
              have kn27 : N23.1 a 1 = zI z21 := (hFN23 a 1 (by have := w_ap hka; first | omega | (dsimp only; omega))).trans (ez21)
              refine lv_istore (lv' := [(5, .int (zI z24)), (4, .int (zI z11)), (3, .int (zI g3_1_17)), (2, .int (zI v2_17)), (0, .ref (B + 3)), (1, .ref (B + a))]) hx hb dX10_readLines_76 hl (by decide) rfl (fun ls hl => ?_)
              refine lv_iload hx hb dX10_readLines_78 (lv_at hl 0 rfl) ?_
              refine lv_iconst (v := zI (-1)) hx hb dX10_readLines_80 rfl ?_
              refine z_icmp_ne (tgt := 86) hx hb (by omega) (by omega) dX10_readLines_81 (by decide) (fun c28 => ?_) (fun c28 => ?_)
              · refine lv_aload_n hx hb dX10_readLines_86 rfl (lv_at hl 5 rfl) ?_
                refine lv_iload hx hb dX10_readLines_87 (lv_at hl 1 rfl) ?_
                refine lv_iload hx hb dX10_readLines_89 (lv_at hl 0 rfl) ?_
                refine k_Vi F w (As := [.int (zI z11), .int (zI z24)]) (rest := []) (a := a) (kd_lt (a := a) hka (by decide)) (sh_9 hka _ _) rfl (q_X9_isOpen (a := a) hka (t := z11) (by omega) (y := z24) (by omega)  hIN23) gv_X10_74 hv_X9_isOpen ⟨(Nat.le_of_ble_eq_true rfl), (Nat.le_of_ble_eq_true rfl)⟩ hl.1 rfl (Nat.le_of_ble_eq_true rfl) ⟨Nat.zero_le _, Nat.zero_le _⟩ dX10_readLines_91 (fun r29 N30 H locs hp w => ?_)
                obtain ⟨z31, rfl, bz31, xz31, hMN30⟩ := hp
                rw [hMN30] at w
                refine z_if_ne (tgt := 104) hx hb (by omega) dX10_readLines_94 (by decide) (fun c32 => ?_) (fun c32 => ?_)
                · refine lv_aload_n hx hb dX10_readLines_104 rfl (lv_at hl 5 rfl) ?_
                  refine f_9_5 F w (a := a) hka tb_457 dX10_readLines_105 ?_
                  refine lv_iload hx hb dX10_readLines_108 (lv_at hl 1 rfl) ?_
                  refine lv_dup2_11 hx hb dX10_readLines_110 rfl rfl ?_
                  refine g_iald F w (a := (a + 2)) (kd_w2 hka) (j := (Int.toNat z11)) (ix_z (by omega) (by omega)) (by omega) dX10_readLines_111 ?_
                  obtain ⟨z33, bz33, ez33⟩ := Inv.ld (k := (Int.toNat z11)) hIN23 (iv_wl hka _) (by have := lt_w hka; omega)
                  refine r_val ez33 ?_
                  refine lv_iconst (v := zI 1) hx hb dX10_readLines_112 rfl ?_
                  refine lv_iload hx hb dX10_readLines_113 (lv_at hl 0 rfl) ?_
                  obtain ⟨z34, bz34, x0z34, ez34⟩ := shl_ex 1 z24
                  refine lv_ishl hx hb dX10_readLines_115 ?_
                  refine r_val ez34 ?_
                  obtain ⟨z35, bz35, x0z35, ez35⟩ := or_ex z33 z34
                  refine lv_ior hx hb dX10_readLines_116 ?_
                  refine r_val ez35 ?_
                  refine g_iast F w (a := (a + 2)) (kd_w2 hka) (j := (Int.toNat z11)) (ix_z (by omega) (by omega)) (by omega) dX10_readLines_117 (fun H locs w => ?_)
                  refine lv_aload_n hx hb dX10_readLines_118 rfl (lv_at hl 4 rfl) ?_
                  refine f_10_1 F w (a := 3) rfl tb_433 dX10_readLines_119 ?_
                  obtain ⟨z36, bz36, ez36⟩ := Inv.ld (k := 1) (Inv.to hIN23 (a := (a + 2)) (k := (Int.toNat z11)) (x := z35) (iv_wl hka _) (by omega)) (show iv 3 1 = ((-2147483648), 2147483647) from rfl) (show 3 < 146 by decide)
                  refine r_val ez36 ?_
                  refine lv_aload_n hx hb dX10_readLines_122 rfl (lv_at hl 4 rfl) ?_
                  refine f_10_0 F w (a := 3) rfl tb_432 dX10_readLines_123 ?_
                  refine f_8_1 F w (a := 1) rfl tb_441 dX10_readLines_126 ?_
                  obtain ⟨z37, bz37, ez37⟩ := Inv.ld (k := 1) (Inv.to hIN23 (a := (a + 2)) (k := (Int.toNat z11)) (x := z35) (iv_wl hka _) (by omega)) (show iv 1 1 = (0, 300) from rfl) (show 1 < 146 by decide)
                  refine r_val ez37 ?_
                  refine z_icmp_ge (tgt := 150) hx hb (by omega) (by omega) dX10_readLines_129 (by decide) (fun c38 => ?_) (fun c38 => ?_)
                  · refine lv_aload_n hx hb dX10_readLines_150 rfl (lv_at hl 4 rfl) ?_
                    refine lv_aload_n hx hb dX10_readLines_151 rfl (lv_at hl 4 rfl) ?_
                    refine f_10_0 F w (a := 3) rfl tb_432 dX10_readLines_152 ?_
                    refine lv_aload_n hx hb dX10_readLines_155 rfl (lv_at hl 4 rfl) ?_
                    refine f_10_1 F w (a := 3) rfl tb_433 dX10_readLines_156 ?_
                    obtain ⟨z39, bz39, ez39⟩ := Inv.ld (k := 1) (Inv.to hIN23 (a := (a + 2)) (k := (Int.toNat z11)) (x := z35) (iv_wl hka _) (by omega)) (show iv 3 1 = ((-2147483648), 2147483647) from rfl) (show 3 < 146 by decide)
                    refine r_val ez39 ?_
                    refine k_Vi F w (As := [.int (zI z39)]) (rest := [.ref (B + 3)]) (a := 1) (kd_lt (a := 1) (show kd 1 = (8, 0, 0) from rfl) (by decide)) (sh_8 rfl _ _) rfl (q_X8_skipBlanks (x := z39) (by omega)  (Inv.to hIN23 (a := (a + 2)) (k := (Int.toNat z11)) (x := z35) (iv_wl hka _) (by omega))) gv_X10_34 hv_X8_skipBlanks ⟨(Nat.le_of_ble_eq_true rfl), (Nat.le_of_ble_eq_true rfl)⟩ hl.1 rfl (Nat.le_of_ble_eq_true rfl) ⟨Nat.zero_le _, Nat.zero_le _⟩ dX10_readLines_159 (fun r40 N41 H locs hp w => ?_)
                    obtain ⟨z42, rfl, bz42, xz42, hMN41⟩ := hp
                    rw [hMN41] at w
                    refine u_10_1 F w (a := 3) rfl tb_433 dX10_readLines_162 (fun H locs w => ?_)
                    refine z_iinc (v := (v2_17 + 1)) (lv' := [(2, .int (zI (v2_17 + 1))), (5, .int (zI z24)), (4, .int (zI z11)), (3, .int (zI g3_1_17)), (0, .ref (B + 3)), (1, .ref (B + a))]) hx hb dX10_readLines_165 hl (k := 3) rfl (by omega) (by decide) rfl (fun ls hl => ?_)
                    refine lv_goto (tgt := 17) hx hb dX10_readLines_168 (by decide) ?_
                    exact ih17 (v2_17 + 1) z42 (st (st N23 (a + 2) (Int.toNat z11) (zI z35)) 3 1 (zI z42)) (by omega) (by omega) (st_at)  (Inv.to (Inv.to hIN23 (a := (a + 2)) (k := (Int.toNat z11)) (x := z35) (iv_wl hka _) (by omega)) (a := 3) (k := 1) (x := z42) (show iv 3 1 = ((-2147483648), 2147483647) from rfl) (by omega)) (Fr.to (Fr.to hGN23 (by first | omega | (dsimp only; first | done | omega))) (by first | omega | (dsimp only; first | done | omega))) (by omega) _ _ _ w (lv_sub hl [0, 4, 5] rfl)
                  · refine lv_aload_n hx hb dX10_readLines_132 rfl (lv_at hl 4 rfl) ?_
                    refine f_10_0 F w (a := 3) rfl tb_432 dX10_readLines_133 ?_
                    refine lv_aload_n hx hb dX10_readLines_136 rfl (lv_at hl 4 rfl) ?_
                    refine f_10_1 F w (a := 3) rfl tb_433 dX10_readLines_137 ?_
                    obtain ⟨z43, bz43, ez43⟩ := Inv.ld (k := 1) (Inv.to hIN23 (a := (a + 2)) (k := (Int.toNat z11)) (x := z35) (iv_wl hka _) (by omega)) (show iv 3 1 = ((-2147483648), 2147483647) from rfl) (show 3 < 146 by decide)
                    refine r_val ez43 ?_
                    refine k_Vi F w (As := [.int (zI z43)]) (rest := []) (a := 1) (kd_lt (a := 1) (show kd 1 = (8, 0, 0) from rfl) (by decide)) (sh_8 rfl _ _) rfl (q_X8_signAt (x := z43) (by omega)  (Inv.to hIN23 (a := (a + 2)) (k := (Int.toNat z11)) (x := z35) (iv_wl hka _) (by omega))) gv_X10_43 hv_X8_signAt ⟨(Nat.le_of_ble_eq_true rfl), (Nat.le_of_ble_eq_true rfl)⟩ hl.1 rfl (Nat.le_of_ble_eq_true rfl) ⟨Nat.zero_le _, Nat.zero_le _⟩ dX10_readLines_140 (fun r44 N45 H locs hp w => ?_)
                    obtain ⟨z46, rfl, bz46, xz46, hMN45⟩ := hp
                    rw [hMN45] at w
                    refine lv_bipush (v := zI 32) hx hb dX10_readLines_143 (by decide) ?_
                    refine z_icmp_eq (tgt := 150) hx hb (by omega) (by omega) dX10_readLines_145 (by decide) (fun c47 => ?_) (fun c47 => ?_)
                    · refine lv_aload_n hx hb dX10_readLines_150 rfl (lv_at hl 4 rfl) ?_
                      refine lv_aload_n hx hb dX10_readLines_151 rfl (lv_at hl 4 rfl) ?_
                      refine f_10_0 F w (a := 3) rfl tb_432 dX10_readLines_152 ?_
                      refine lv_aload_n hx hb dX10_readLines_155 rfl (lv_at hl 4 rfl) ?_
                      refine f_10_1 F w (a := 3) rfl tb_433 dX10_readLines_156 ?_
                      obtain ⟨z48, bz48, ez48⟩ := Inv.ld (k := 1) (Inv.to hIN23 (a := (a + 2)) (k := (Int.toNat z11)) (x := z35) (iv_wl hka _) (by omega)) (show iv 3 1 = ((-2147483648), 2147483647) from rfl) (show 3 < 146 by decide)
                      refine r_val ez48 ?_
                      refine k_Vi F w (As := [.int (zI z48)]) (rest := [.ref (B + 3)]) (a := 1) (kd_lt (a := 1) (show kd 1 = (8, 0, 0) from rfl) (by decide)) (sh_8 rfl _ _) rfl (q_X8_skipBlanks (x := z48) (by omega)  (Inv.to hIN23 (a := (a + 2)) (k := (Int.toNat z11)) (x := z35) (iv_wl hka _) (by omega))) gv_X10_34 hv_X8_skipBlanks ⟨(Nat.le_of_ble_eq_true rfl), (Nat.le_of_ble_eq_true rfl)⟩ hl.1 rfl (Nat.le_of_ble_eq_true rfl) ⟨Nat.zero_le _, Nat.zero_le _⟩ dX10_readLines_159 (fun r49 N50 H locs hp w => ?_)
                      obtain ⟨z51, rfl, bz51, xz51, hMN50⟩ := hp
                      rw [hMN50] at w
                      refine u_10_1 F w (a := 3) rfl tb_433 dX10_readLines_162 (fun H locs w => ?_)
                      refine z_iinc (v := (v2_17 + 1)) (lv' := [(2, .int (zI (v2_17 + 1))), (5, .int (zI z24)), (4, .int (zI z11)), (3, .int (zI g3_1_17)), (0, .ref (B + 3)), (1, .ref (B + a))]) hx hb dX10_readLines_165 hl (k := 3) rfl (by omega) (by decide) rfl (fun ls hl => ?_)
                      refine lv_goto (tgt := 17) hx hb dX10_readLines_168 (by decide) ?_
                      exact ih17 (v2_17 + 1) z51 (st (st N23 (a + 2) (Int.toNat z11) (zI z35)) 3 1 (zI z51)) (by omega) (by omega) (st_at)  (Inv.to (Inv.to hIN23 (a := (a + 2)) (k := (Int.toNat z11)) (x := z35) (iv_wl hka _) (by omega)) (a := 3) (k := 1) (x := z51) (show iv 3 1 = ((-2147483648), 2147483647) from rfl) (by omega)) (Fr.to (Fr.to hGN23 (by first | omega | (dsimp only; first | done | omega))) (by first | omega | (dsimp only; first | done | omega))) (by omega) _ _ _ w (lv_sub hl [0, 4, 5] rfl)
                    · refine lv_iconst (v := zI 0) hx hb dX10_readLines_148 rfl ?_
                      rw [hQ]
                      exact e_z F w hr hlocks (nar_z (by omega)) ⟨_, rfl, (by omega), (Inv.to hIN23 (a := (a + 2)) (k := (Int.toNat z11)) (x := z35) (iv_wl hka _) (by omega)), (Fr.to hGN23 (by first | omega | (dsimp only; first | done | omega)))⟩ dX10_readLines_149
                · refine lv_aload_n hx hb dX10_readLines_97 rfl (lv_at hl 4 rfl) ?_
                  refine lv_iload_n hx hb dX10_readLines_98 rfl (lv_at hl 2 rfl) ?_
                  refine u_10_1 F w (a := 3) rfl tb_433 dX10_readLines_99 (fun H locs w => ?_)
                  refine lv_iconst (v := zI 0) hx hb dX10_readLines_102 rfl ?_
                  rw [hQ]
                  exact e_z F w hr hlocks (nar_z (by omega)) ⟨_, rfl, (by omega), (Inv.to hIN23 (a := 3) (k := 1) (x := g3_1_17) (show iv 3 1 = ((-2147483648), 2147483647) from rfl) (by omega)), (Fr.to hGN23 (by first | omega | (dsimp only; first | done | omega)))⟩ dX10_readLines_103
              · refine lv_iconst (v := zI 0) hx hb dX10_readLines_84 rfl ?_
                rw [hQ]
                exact e_z F w hr hlocks (nar_z (by omega)) ⟨_, rfl, (by omega), hIN23, hGN23⟩ dX10_readLines_85
            · refine lv_iconst (v := zI 0) hx hb dX10_readLines_66 rfl ?_
              rw [hQ]
              exact e_z F w hr hlocks (nar_z (by omega)) ⟨_, rfl, (by omega), hIN16, hGN16⟩ dX10_readLines_67
  exact lp17 _ 0 z4 (st M 3 1 (zI z4)) (by omega) (by omega) (st_at) (Inv.to hI (a := 3) (k := 1) (x := z4) (show iv 3 1 = ((-2147483648), 2147483647) from rfl) (by omega)) (Fr.to hF (by first | omega | (dsimp only; first | done | omega))) (Nat.lt_succ_self _) _ _ _ w (lv_sub hl [0, 1, 2] rfl)
theorem dX10_faultOf_0 : decode cX10_faultOf 0 = .ok (.aload_n 1, 1) := udX10_faultOf_0
theorem dX10_faultOf_1 : decode cX10_faultOf 1 = .ok (.invokevirtual 19, 3) := udX10_faultOf_1
theorem tb_458 : Cond.methodLink "ToneLines$WordReader" 19 yX9_clear ∈ TB := utb_60
theorem gv_X10_19 : GoodIn TB (wsV RX10 19 RX9 yX9_clear (cw yX9_clear cX9_clear 1 none)) := goodIn_4 tb_458 tb_235 tb_236 tb_5 gc_X9_clear
theorem dX10_faultOf_4 : decode cX10_faultOf 4 = .ok (.aload_n 0, 1) := udX10_faultOf_4
theorem dX10_faultOf_5 : decode cX10_faultOf 5 = .ok (.iconst 0, 1) := udX10_faultOf_5
theorem dX10_faultOf_6 : decode cX10_faultOf 6 = .ok (.putfield 9, 3) := udX10_faultOf_6
theorem dX10_faultOf_9 : decode cX10_faultOf 9 = .ok (.aload_n 0, 1) := udX10_faultOf_9
theorem dX10_faultOf_10 : decode cX10_faultOf 10 = .ok (.aload_n 1, 1) := udX10_faultOf_10
theorem dX10_faultOf_11 : decode cX10_faultOf 11 = .ok (.invokevirtual 24, 3) := udX10_faultOf_11
theorem tk_X10_readTones : Cond.code yX10_readTones cX10_readTones 4 (some .boolean) ∈ TB := utk_X10_readTones
theorem gc_X10_readTones : GoodIn TB (cw yX10_readTones cX10_readTones 4 (some .boolean)) := goodIn_c2 tk_X10_readTones
theorem tb_459 : Cond.methodLink "ToneLines$WordReader" 24 yX10_readTones ∈ TB := utb_63
theorem tb_460 : Cond.instanceMethod yX10_readTones ∈ TB := utb_64
theorem tb_461 : Cond.selects "ToneLines$WordReader" yX10_readTones yX10_readTones ∈ TB := utb_65
theorem gv_X10_24 : GoodIn TB (wsV RX10 24 RX10 yX10_readTones (cw yX10_readTones cX10_readTones 4 (some .boolean))) := goodIn_4 tb_459 tb_460 tb_461 tb_452 gc_X10_readTones
theorem hv_X10_readTones : yX10_readTones.cls = RX10 ∧ yX10_readTones.cls ≠ "java/lang/invoke/MethodHandle" ∧ yX10_readTones.cls ≠ "java/lang/invoke/VarHandle" ∧ (parseMethodDescriptor yX10_readTones.desc).map (fun d => d.parameters.length) = some 1 := uhv_X10_readTones
theorem dX10_faultOf_14 : decode cX10_faultOf 14 = .ok (.ifCond .eq 23, 3) := udX10_faultOf_14
theorem dX10_faultOf_37 : decode cX10_faultOf 37 = .ok (.iconst 0, 1) := udX10_faultOf_37
theorem dX10_faultOf_38 : decode cX10_faultOf 38 = .ok (.istore_n 2, 1) := udX10_faultOf_38
theorem dX10_faultOf_39 : decode cX10_faultOf 39 = .ok (.iload_n 2, 1) := udX10_faultOf_39
theorem dX10_faultOf_40 : decode cX10_faultOf 40 = .ok (.ifCond .eq 7, 3) := udX10_faultOf_40
theorem dX10_faultOf_47 : decode cX10_faultOf 47 = .ok (.aload_n 0, 1) := udX10_faultOf_47
theorem dX10_faultOf_48 : decode cX10_faultOf 48 = .ok (.getfield 9, 3) := udX10_faultOf_48
theorem dX10_faultOf_51 : decode cX10_faultOf 51 = .ok (.ireturn, 1) := udX10_faultOf_51
theorem dX10_faultOf_17 : decode cX10_faultOf 17 = .ok (.aload_n 0, 1) := udX10_faultOf_17
theorem dX10_faultOf_18 : decode cX10_faultOf 18 = .ok (.aload_n 1, 1) := udX10_faultOf_18
theorem dX10_faultOf_19 : decode cX10_faultOf 19 = .ok (.invokevirtual 28, 3) := udX10_faultOf_19
theorem tk_X10_readSyllables : Cond.code yX10_readSyllables cX10_readSyllables 4 (some .boolean) ∈ TB := utk_X10_readSyllables
theorem gc_X10_readSyllables : GoodIn TB (cw yX10_readSyllables cX10_readSyllables 4 (some .boolean)) := goodIn_c2 tk_X10_readSyllables
theorem tb_462 : Cond.methodLink "ToneLines$WordReader" 28 yX10_readSyllables ∈ TB := utb_66
theorem tb_463 : Cond.instanceMethod yX10_readSyllables ∈ TB := utb_67
theorem tb_464 : Cond.selects "ToneLines$WordReader" yX10_readSyllables yX10_readSyllables ∈ TB := utb_68
theorem gv_X10_28 : GoodIn TB (wsV RX10 28 RX10 yX10_readSyllables (cw yX10_readSyllables cX10_readSyllables 4 (some .boolean))) := goodIn_4 tb_462 tb_463 tb_464 tb_452 gc_X10_readSyllables
theorem hv_X10_readSyllables : yX10_readSyllables.cls = RX10 ∧ yX10_readSyllables.cls ≠ "java/lang/invoke/MethodHandle" ∧ yX10_readSyllables.cls ≠ "java/lang/invoke/VarHandle" ∧ (parseMethodDescriptor yX10_readSyllables.desc).map (fun d => d.parameters.length) = some 1 := uhv_X10_readSyllables
theorem dX10_faultOf_22 : decode cX10_faultOf 22 = .ok (.ifCond .eq 15, 3) := udX10_faultOf_22
theorem dX10_faultOf_25 : decode cX10_faultOf 25 = .ok (.aload_n 0, 1) := udX10_faultOf_25
theorem dX10_faultOf_26 : decode cX10_faultOf 26 = .ok (.aload_n 1, 1) := udX10_faultOf_26
theorem dX10_faultOf_27 : decode cX10_faultOf 27 = .ok (.invokevirtual 31, 3) := udX10_faultOf_27
theorem tk_X10_readLines : Cond.code yX10_readLines cX10_readLines 6 (some .boolean) ∈ TB := utk_X10_readLines
theorem gc_X10_readLines : GoodIn TB (cw yX10_readLines cX10_readLines 6 (some .boolean)) := goodIn_c2 tk_X10_readLines
theorem tb_465 : Cond.methodLink "ToneLines$WordReader" 31 yX10_readLines ∈ TB := utb_69
theorem tb_466 : Cond.instanceMethod yX10_readLines ∈ TB := utb_70
theorem tb_467 : Cond.selects "ToneLines$WordReader" yX10_readLines yX10_readLines ∈ TB := utb_71
theorem gv_X10_31 : GoodIn TB (wsV RX10 31 RX10 yX10_readLines (cw yX10_readLines cX10_readLines 6 (some .boolean))) := goodIn_4 tb_465 tb_466 tb_467 tb_452 gc_X10_readLines
theorem hv_X10_readLines : yX10_readLines.cls = RX10 ∧ yX10_readLines.cls ≠ "java/lang/invoke/MethodHandle" ∧ yX10_readLines.cls ≠ "java/lang/invoke/VarHandle" ∧ (parseMethodDescriptor yX10_readLines.desc).map (fun d => d.parameters.length) = some 1 := uhv_X10_readLines
theorem dX10_faultOf_30 : decode cX10_faultOf 30 = .ok (.ifCond .eq 7, 3) := udX10_faultOf_30
theorem dX10_faultOf_33 : decode cX10_faultOf 33 = .ok (.iconst 1, 1) := udX10_faultOf_33
theorem dX10_faultOf_34 : decode cX10_faultOf 34 = .ok (.goto 4, 3) := udX10_faultOf_34
theorem dX10_faultOf_43 : decode cX10_faultOf 43 = .ok (.iconst (-1), 1) := udX10_faultOf_43
theorem dX10_faultOf_44 : decode cX10_faultOf 44 = .ok (.goto 7, 3) := udX10_faultOf_44
set_option maxRecDepth 4000 in
theorem q_X10_faultOf {l : Launch} {D : va_G} {B : Nat} {cy : Nat → ClassId} {M : Mem} {a : Nat} (hka : kd a = (9, 0, 0)) (hI : Inv M) : Ci l D B cy yX10_faultOf cX10_faultOf 3 (some .int) 5 114 [.ref (B + 3), .ref (B + a)] M (fun r M1 => ∃ z : Int, r = zI z ∧ ((-2147483648) ≤ z ∧ z ≤ 2147483647) ∧ Inv M1 ∧ Fr (fun b9 k9 => (b9 = 3 ∧ k9 = 1) ∨ b9 = (a + 1) ∨ b9 = (a + 2) ∨ b9 = a) M1 M) := by
  refine s_anyQ (by decide) (Nat.le_of_ble_eq_true rfl) ?_
  intro p e s m args below meth c ls Q F hr hlocks hQ w hl
  have F : CallFix p m c cX10_faultOf 3 s args TB RX10 := F
  have hx := F.1
  have hb := F.2.1
  have hl : lv_has ls 3 [(0, .ref (B + 3)), (1, .ref (B + a))] := hl
  have hF : Fr (fun b9 k9 => (b9 = 3 ∧ k9 = 1) ∨ b9 = (a + 1) ∨ b9 = (a + 2) ∨ b9 = a) M M := Fr.rf
  refine lv_aload_n hx hb dX10_faultOf_0 rfl (lv_at hl 1 rfl) ?_
  refine k_Vv F w (As := []) (rest := []) (a := a) (kd_lt (a := a) hka (by decide)) (sh_9 hka _ _) rfl (q_X9_clear (a := a) hka  hI) gv_X10_19 hv_X9_clear ⟨(Nat.le_of_ble_eq_true rfl), (Nat.le_of_ble_eq_true rfl)⟩ hl.1 rfl (Nat.le_of_ble_eq_true rfl) ⟨Nat.zero_le _, Nat.zero_le _⟩ dX10_faultOf_1 (fun N2 H locs hp w => ?_)
  obtain ⟨hIN2, hFN2⟩ := hp
  have hGN2 := Fr.tr hF hFN2 (S := (fun b9 k9 => (b9 = 3 ∧ k9 = 1) ∨ b9 = (a + 1) ∨ b9 = (a + 2) ∨ b9 = a)) (fun b k h => by (try dsimp only at h ⊢); (repeat' (refine Or.elim h ?_ ?_ <;> clear h <;> intro h)); all_goals first | (obtain ⟨rfl, rfl⟩ := h; decide) | (subst h; decide) | omega)
  refine lv_aload_n hx hb dX10_faultOf_4 rfl (lv_at hl 0 rfl) ?_
  refine lv_iconst (v := zI 0) hx hb dX10_faultOf_5 rfl ?_
  refine u_10_1 F w (a := 3) rfl tb_433 dX10_faultOf_6 (fun H locs w => ?_)
  refine lv_aload_n hx hb dX10_faultOf_9 rfl (lv_at hl 0 rfl) ?_
  refine lv_aload_n hx hb dX10_faultOf_10 rfl (lv_at hl 1 rfl) ?_
  refine k_Vi F w (As := [.ref (B + a)]) (rest := []) (a := 3) (kd_lt (a := 3) (show kd 3 = (10, 0, 0) from rfl) (by decide)) (sh_10 rfl _ _) rfl (q_X10_readTones (a := a) hka  (Inv.to hIN2 (a := 3) (k := 1) (x := 0) (show iv 3 1 = ((-2147483648), 2147483647) from rfl) (by omega))) gv_X10_24 hv_X10_readTones ⟨(Nat.le_of_ble_eq_true rfl), (Nat.le_of_ble_eq_true rfl)⟩ hl.1 rfl (Nat.le_of_ble_eq_true rfl) ⟨Nat.zero_le _, Nat.zero_le _⟩ dX10_faultOf_11 (fun r4 N5 H locs hp w => ?_)
  obtain ⟨z6, rfl, bz6, hIN5, hFN5⟩ := hp
  have hGN5 := Fr.tr (Fr.to hGN2 (by first | omega | (dsimp only; first | done | omega))) hFN5 (S := (fun b9 k9 => (b9 = 3 ∧ k9 = 1) ∨ b9 = (a + 1) ∨ b9 = (a + 2) ∨ b9 = a)) (fun b k h => by (try dsimp only at h ⊢); (repeat' (refine Or.elim h ?_ ?_ <;> clear h <;> intro h)); all_goals first | (obtain ⟨rfl, rfl⟩ := h; decide) | (subst h; decide) | omega)
  refine z_if_eq (tgt := 37) hx hb (by omega) dX10_faultOf_14 (by decide) (fun c7 => ?_) (fun c7 => ?_)
  · refine lv_iconst (v := zI 0) hx hb dX10_faultOf_37 rfl ?_
    refine lv_istore_n (lv' := [(2, .int (zI 0)), (0, .ref (B + 3)), (1, .ref (B + a))]) hx hb dX10_faultOf_38 rfl hl (by decide) rfl (fun ls hl => ?_)
    refine lv_iload_n hx hb dX10_faultOf_39 rfl (lv_at hl 0 rfl) ?_
    refine z_if_eq (tgt := 47) hx hb (by omega) dX10_faultOf_40 (by decide) (fun c8 => ?_) (fun c8 => False.elim (by omega))
    refine lv_aload_n hx hb dX10_faultOf_47 rfl (lv_at hl 1 rfl) ?_
    refine f_10_1 F w (a := 3) rfl tb_433 dX10_faultOf_48 ?_
    obtain ⟨z9, bz9, ez9⟩ := Inv.ld (k := 1) hIN5 (show iv 3 1 = ((-2147483648), 2147483647) from rfl) (show 3 < 146 by decide)
    refine r_val ez9 ?_
    rw [hQ]
    exact e_i F w hr hlocks ⟨_, rfl, (by omega), hIN5, hGN5⟩ dX10_faultOf_51
  · refine lv_aload_n hx hb dX10_faultOf_17 rfl (lv_at hl 0 rfl) ?_
    refine lv_aload_n hx hb dX10_faultOf_18 rfl (lv_at hl 1 rfl) ?_
    refine k_Vi F w (As := [.ref (B + a)]) (rest := []) (a := 3) (kd_lt (a := 3) (show kd 3 = (10, 0, 0) from rfl) (by decide)) (sh_10 rfl _ _) rfl (q_X10_readSyllables (a := a) hka  hIN5) gv_X10_28 hv_X10_readSyllables ⟨(Nat.le_of_ble_eq_true rfl), (Nat.le_of_ble_eq_true rfl)⟩ hl.1 rfl (Nat.le_of_ble_eq_true rfl) ⟨Nat.zero_le _, Nat.zero_le _⟩ dX10_faultOf_19 (fun r10 N11 H locs hp w => ?_)
    obtain ⟨z12, rfl, bz12, hIN11, hFN11⟩ := hp
    have hGN11 := Fr.tr hGN5 hFN11 (S := (fun b9 k9 => (b9 = 3 ∧ k9 = 1) ∨ b9 = (a + 1) ∨ b9 = (a + 2) ∨ b9 = a)) (fun b k h => by (try dsimp only at h ⊢); (repeat' (refine Or.elim h ?_ ?_ <;> clear h <;> intro h)); all_goals first | (obtain ⟨rfl, rfl⟩ := h; decide) | (subst h; decide) | omega)
    refine z_if_eq (tgt := 37) hx hb (by omega) dX10_faultOf_22 (by decide) (fun c13 => ?_) (fun c13 => ?_)
    · refine lv_iconst (v := zI 0) hx hb dX10_faultOf_37 rfl ?_
      refine lv_istore_n (lv' := [(2, .int (zI 0)), (0, .ref (B + 3)), (1, .ref (B + a))]) hx hb dX10_faultOf_38 rfl hl (by decide) rfl (fun ls hl => ?_)
      refine lv_iload_n hx hb dX10_faultOf_39 rfl (lv_at hl 0 rfl) ?_
      refine z_if_eq (tgt := 47) hx hb (by omega) dX10_faultOf_40 (by decide) (fun c14 => ?_) (fun c14 => False.elim (by omega))
      refine lv_aload_n hx hb dX10_faultOf_47 rfl (lv_at hl 1 rfl) ?_
      refine f_10_1 F w (a := 3) rfl tb_433 dX10_faultOf_48 ?_
      obtain ⟨z15, bz15, ez15⟩ := Inv.ld (k := 1) hIN11 (show iv 3 1 = ((-2147483648), 2147483647) from rfl) (show 3 < 146 by decide)
      refine r_val ez15 ?_
      rw [hQ]
      exact e_i F w hr hlocks ⟨_, rfl, (by omega), hIN11, hGN11⟩ dX10_faultOf_51
    · refine lv_aload_n hx hb dX10_faultOf_25 rfl (lv_at hl 0 rfl) ?_
      refine lv_aload_n hx hb dX10_faultOf_26 rfl (lv_at hl 1 rfl) ?_
      refine k_Vi F w (As := [.ref (B + a)]) (rest := []) (a := 3) (kd_lt (a := 3) (show kd 3 = (10, 0, 0) from rfl) (by decide)) (sh_10 rfl _ _) rfl (q_X10_readLines (a := a) hka  hIN11) gv_X10_31 hv_X10_readLines ⟨(Nat.le_of_ble_eq_true rfl), (Nat.le_of_ble_eq_true rfl)⟩ hl.1 rfl (Nat.le_of_ble_eq_true rfl) ⟨Nat.zero_le _, Nat.zero_le _⟩ dX10_faultOf_27 (fun r16 N17 H locs hp w => ?_)
      obtain ⟨z18, rfl, bz18, hIN17, hFN17⟩ := hp
      have hGN17 := Fr.tr hGN11 hFN17 (S := (fun b9 k9 => (b9 = 3 ∧ k9 = 1) ∨ b9 = (a + 1) ∨ b9 = (a + 2) ∨ b9 = a)) (fun b k h => by (try dsimp only at h ⊢); (repeat' (refine Or.elim h ?_ ?_ <;> clear h <;> intro h)); all_goals first | (obtain ⟨rfl, rfl⟩ := h; decide) | (subst h; decide) | omega)
      refine z_if_eq (tgt := 37) hx hb (by omega) dX10_faultOf_30 (by decide) (fun c19 => ?_) (fun c19 => ?_)
      · refine lv_iconst (v := zI 0) hx hb dX10_faultOf_37 rfl ?_
        refine lv_istore_n (lv' := [(2, .int (zI 0)), (0, .ref (B + 3)), (1, .ref (B + a))]) hx hb dX10_faultOf_38 rfl hl (by decide) rfl (fun ls hl => ?_)
        refine lv_iload_n hx hb dX10_faultOf_39 rfl (lv_at hl 0 rfl) ?_
        refine z_if_eq (tgt := 47) hx hb (by omega) dX10_faultOf_40 (by decide) (fun c20 => ?_) (fun c20 => False.elim (by omega))
        refine lv_aload_n hx hb dX10_faultOf_47 rfl (lv_at hl 1 rfl) ?_
        refine f_10_1 F w (a := 3) rfl tb_433 dX10_faultOf_48 ?_
        obtain ⟨z21, bz21, ez21⟩ := Inv.ld (k := 1) hIN17 (show iv 3 1 = ((-2147483648), 2147483647) from rfl) (show 3 < 146 by decide)
        refine r_val ez21 ?_
        rw [hQ]
        exact e_i F w hr hlocks ⟨_, rfl, (by omega), hIN17, hGN17⟩ dX10_faultOf_51
      · refine lv_iconst (v := zI 1) hx hb dX10_faultOf_33 rfl ?_
        refine lv_goto (tgt := 38) hx hb dX10_faultOf_34 (by decide) ?_
        refine lv_istore_n (lv' := [(2, .int (zI 1)), (0, .ref (B + 3)), (1, .ref (B + a))]) hx hb dX10_faultOf_38 rfl hl (by decide) rfl (fun ls hl => ?_)
        refine lv_iload_n hx hb dX10_faultOf_39 rfl (lv_at hl 0 rfl) ?_
        refine z_if_eq (tgt := 47) hx hb (by omega) dX10_faultOf_40 (by decide) (fun c22 => False.elim (by omega)) (fun c22 => ?_)
        refine lv_iconst (v := zI (-1)) hx hb dX10_faultOf_43 rfl ?_
        refine lv_goto (tgt := 51) hx hb dX10_faultOf_44 (by decide) ?_
        rw [hQ]
        exact e_i F w hr hlocks ⟨_, rfl, (by omega), hIN17, hGN17⟩ dX10_faultOf_51
theorem dX5_needsBlank_0 : decode cX5_needsBlank 0 = .ok (.iload_n 0, 1) := rdX5_needsBlank_0
theorem dX5_needsBlank_1 : decode cX5_needsBlank 1 = .ok (.bipush 97, 2) := rdX5_needsBlank_1
theorem dX5_needsBlank_3 : decode cX5_needsBlank 3 = .ok (.if_icmp .lt 9, 3) := rdX5_needsBlank_3
theorem dX5_needsBlank_12 : decode cX5_needsBlank 12 = .ok (.iload_n 0, 1) := rdX5_needsBlank_12
theorem dX5_needsBlank_13 : decode cX5_needsBlank 13 = .ok (.bipush 48, 2) := rdX5_needsBlank_13
theorem dX5_needsBlank_15 : decode cX5_needsBlank 15 = .ok (.if_icmp .lt 13, 3) := rdX5_needsBlank_15
theorem dX5_needsBlank_28 : decode cX5_needsBlank 28 = .ok (.iconst 0, 1) := rdX5_needsBlank_28
theorem dX5_needsBlank_29 : decode cX5_needsBlank 29 = .ok (.ireturn, 1) := rdX5_needsBlank_29
theorem dX5_needsBlank_18 : decode cX5_needsBlank 18 = .ok (.iload_n 0, 1) := rdX5_needsBlank_18
theorem dX5_needsBlank_19 : decode cX5_needsBlank 19 = .ok (.bipush 57, 2) := rdX5_needsBlank_19
theorem dX5_needsBlank_21 : decode cX5_needsBlank 21 = .ok (.if_icmp .gt 7, 3) := rdX5_needsBlank_21
theorem dX5_needsBlank_24 : decode cX5_needsBlank 24 = .ok (.iconst 1, 1) := rdX5_needsBlank_24
theorem dX5_needsBlank_25 : decode cX5_needsBlank 25 = .ok (.goto 4, 3) := rdX5_needsBlank_25
theorem dX5_needsBlank_6 : decode cX5_needsBlank 6 = .ok (.iload_n 0, 1) := rdX5_needsBlank_6
theorem dX5_needsBlank_7 : decode cX5_needsBlank 7 = .ok (.bipush 122, 2) := rdX5_needsBlank_7
theorem dX5_needsBlank_9 : decode cX5_needsBlank 9 = .ok (.if_icmp .le 15, 3) := rdX5_needsBlank_9
set_option maxRecDepth 4000 in
theorem q_X5_needsBlank {l : Launch} {D : va_G} {B : Nat} {cy : Nat → ClassId} {M : Mem} {x : Int} (hx : (-2147483648) ≤ x ∧ x ≤ 2147483647) (hI : Inv M) : Ci l D B cy yX5_needsBlank cX5_needsBlank 1 (some .boolean) 0 0 [.int (zI x)] M (fun r M1 => ∃ z : Int, r = zI z ∧ (0 ≤ z ∧ z ≤ 1) ∧ M1 = M) := by
  refine s_anyQ (by decide) (Nat.le_of_ble_eq_true rfl) ?_
  intro p e s m args below meth c ls Q F hr hlocks hQ w hl
  have F : CallFix p m c cX5_needsBlank 1 s args TB RX5 := F
  have hx := F.1
  have hb := F.2.1
  have hl : lv_has ls 1 [(0, .int (zI x))] := hl
  refine lv_iload_n hx hb dX5_needsBlank_0 rfl (lv_at hl 0 rfl) ?_
  refine lv_bipush (v := zI 97) hx hb dX5_needsBlank_1 (by decide) ?_
  refine z_icmp_lt (tgt := 12) hx hb (by omega) (by omega) dX5_needsBlank_3 (by decide) (fun c1 => ?_) (fun c1 => ?_)
  · refine lv_iload_n hx hb dX5_needsBlank_12 rfl (lv_at hl 0 rfl) ?_
    refine lv_bipush (v := zI 48) hx hb dX5_needsBlank_13 (by decide) ?_
    refine z_icmp_lt (tgt := 28) hx hb (by omega) (by omega) dX5_needsBlank_15 (by decide) (fun c2 => ?_) (fun c2 => ?_)
    · refine lv_iconst (v := zI 0) hx hb dX5_needsBlank_28 rfl ?_
      rw [hQ]
      exact e_z F w hr hlocks (nar_z (by omega)) ⟨_, rfl, (by omega), rfl⟩ dX5_needsBlank_29
    · refine lv_iload_n hx hb dX5_needsBlank_18 rfl (lv_at hl 0 rfl) ?_
      refine lv_bipush (v := zI 57) hx hb dX5_needsBlank_19 (by decide) ?_
      refine z_icmp_gt (tgt := 28) hx hb (by omega) (by omega) dX5_needsBlank_21 (by decide) (fun c3 => ?_) (fun c3 => ?_)
      · refine lv_iconst (v := zI 0) hx hb dX5_needsBlank_28 rfl ?_
        rw [hQ]
        exact e_z F w hr hlocks (nar_z (by omega)) ⟨_, rfl, (by omega), rfl⟩ dX5_needsBlank_29
      · refine lv_iconst (v := zI 1) hx hb dX5_needsBlank_24 rfl ?_
        refine lv_goto (tgt := 29) hx hb dX5_needsBlank_25 (by decide) ?_
        rw [hQ]
        exact e_z F w hr hlocks (nar_z (by omega)) ⟨_, rfl, (by omega), rfl⟩ dX5_needsBlank_29
  · refine lv_iload_n hx hb dX5_needsBlank_6 rfl (lv_at hl 0 rfl) ?_
    refine lv_bipush (v := zI 122) hx hb dX5_needsBlank_7 (by decide) ?_
    refine z_icmp_le (tgt := 24) hx hb (by omega) (by omega) dX5_needsBlank_9 (by decide) (fun c4 => ?_) (fun c4 => ?_)
    · refine lv_iconst (v := zI 1) hx hb dX5_needsBlank_24 rfl ?_
      refine lv_goto (tgt := 29) hx hb dX5_needsBlank_25 (by decide) ?_
      rw [hQ]
      exact e_z F w hr hlocks (nar_z (by omega)) ⟨_, rfl, (by omega), rfl⟩ dX5_needsBlank_29
    · refine lv_iload_n hx hb dX5_needsBlank_12 rfl (lv_at hl 0 rfl) ?_
      refine lv_bipush (v := zI 48) hx hb dX5_needsBlank_13 (by decide) ?_
      refine z_icmp_lt (tgt := 28) hx hb (by omega) (by omega) dX5_needsBlank_15 (by decide) (fun c5 => False.elim (by omega)) (fun c5 => ?_)
      refine lv_iload_n hx hb dX5_needsBlank_18 rfl (lv_at hl 0 rfl) ?_
      refine lv_bipush (v := zI 57) hx hb dX5_needsBlank_19 (by decide) ?_
      refine z_icmp_gt (tgt := 28) hx hb (by omega) (by omega) dX5_needsBlank_21 (by decide) (fun c6 => ?_) (fun c6 => False.elim (by omega))
      refine lv_iconst (v := zI 0) hx hb dX5_needsBlank_28 rfl ?_
      rw [hQ]
      exact e_z F w hr hlocks (nar_z (by omega)) ⟨_, rfl, (by omega), rfl⟩ dX5_needsBlank_29
theorem dX5_mayHaveIf_0 : decode cX5_mayHaveIf 0 = .ok (.iload_n 0, 1) := rdX5_mayHaveIf_0
theorem dX5_mayHaveIf_1 : decode cX5_mayHaveIf 1 = .ok (.ifCond .eq 19, 3) := rdX5_mayHaveIf_1
theorem dX5_mayHaveIf_20 : decode cX5_mayHaveIf 20 = .ok (.iconst 0, 1) := rdX5_mayHaveIf_20
theorem dX5_mayHaveIf_21 : decode cX5_mayHaveIf 21 = .ok (.ireturn, 1) := rdX5_mayHaveIf_21
theorem dX5_mayHaveIf_4 : decode cX5_mayHaveIf 4 = .ok (.iload_n 0, 1) := rdX5_mayHaveIf_4
theorem dX5_mayHaveIf_5 : decode cX5_mayHaveIf 5 = .ok (.bipush 8, 2) := rdX5_mayHaveIf_5
theorem dX5_mayHaveIf_7 : decode cX5_mayHaveIf 7 = .ok (.if_icmp .eq 13, 3) := rdX5_mayHaveIf_7
theorem dX5_mayHaveIf_10 : decode cX5_mayHaveIf 10 = .ok (.iload_n 0, 1) := rdX5_mayHaveIf_10
theorem dX5_mayHaveIf_11 : decode cX5_mayHaveIf 11 = .ok (.bipush 9, 2) := rdX5_mayHaveIf_11
theorem dX5_mayHaveIf_13 : decode cX5_mayHaveIf 13 = .ok (.if_icmp .eq 7, 3) := rdX5_mayHaveIf_13
theorem dX5_mayHaveIf_16 : decode cX5_mayHaveIf 16 = .ok (.iconst 1, 1) := rdX5_mayHaveIf_16
theorem dX5_mayHaveIf_17 : decode cX5_mayHaveIf 17 = .ok (.goto 4, 3) := rdX5_mayHaveIf_17
set_option maxRecDepth 4000 in
theorem q_X5_mayHaveIf {l : Launch} {D : va_G} {B : Nat} {cy : Nat → ClassId} {M : Mem} {x : Int} (hx : (-2147483648) ≤ x ∧ x ≤ 2147483647) (hI : Inv M) : Ci l D B cy yX5_mayHaveIf cX5_mayHaveIf 1 (some .boolean) 0 0 [.int (zI x)] M (fun r M1 => ∃ z : Int, r = zI z ∧ (0 ≤ z ∧ z ≤ 1) ∧ M1 = M) := by
  refine s_anyQ (by decide) (Nat.le_of_ble_eq_true rfl) ?_
  intro p e s m args below meth c ls Q F hr hlocks hQ w hl
  have F : CallFix p m c cX5_mayHaveIf 1 s args TB RX5 := F
  have hx := F.1
  have hb := F.2.1
  have hl : lv_has ls 1 [(0, .int (zI x))] := hl
  refine lv_iload_n hx hb dX5_mayHaveIf_0 rfl (lv_at hl 0 rfl) ?_
  refine z_if_eq (tgt := 20) hx hb (by omega) dX5_mayHaveIf_1 (by decide) (fun c1 => ?_) (fun c1 => ?_)
  · refine lv_iconst (v := zI 0) hx hb dX5_mayHaveIf_20 rfl ?_
    rw [hQ]
    exact e_z F w hr hlocks (nar_z (by omega)) ⟨_, rfl, (by omega), rfl⟩ dX5_mayHaveIf_21
  · refine lv_iload_n hx hb dX5_mayHaveIf_4 rfl (lv_at hl 0 rfl) ?_
    refine lv_bipush (v := zI 8) hx hb dX5_mayHaveIf_5 (by decide) ?_
    refine z_icmp_eq (tgt := 20) hx hb (by omega) (by omega) dX5_mayHaveIf_7 (by decide) (fun c2 => ?_) (fun c2 => ?_)
    · refine lv_iconst (v := zI 0) hx hb dX5_mayHaveIf_20 rfl ?_
      rw [hQ]
      exact e_z F w hr hlocks (nar_z (by omega)) ⟨_, rfl, (by omega), rfl⟩ dX5_mayHaveIf_21
    · refine lv_iload_n hx hb dX5_mayHaveIf_10 rfl (lv_at hl 0 rfl) ?_
      refine lv_bipush (v := zI 9) hx hb dX5_mayHaveIf_11 (by decide) ?_
      refine z_icmp_eq (tgt := 20) hx hb (by omega) (by omega) dX5_mayHaveIf_13 (by decide) (fun c3 => ?_) (fun c3 => ?_)
      · refine lv_iconst (v := zI 0) hx hb dX5_mayHaveIf_20 rfl ?_
        rw [hQ]
        exact e_z F w hr hlocks (nar_z (by omega)) ⟨_, rfl, (by omega), rfl⟩ dX5_mayHaveIf_21
      · refine lv_iconst (v := zI 1) hx hb dX5_mayHaveIf_16 rfl ?_
        refine lv_goto (tgt := 21) hx hb dX5_mayHaveIf_17 (by decide) ?_
        rw [hQ]
        exact e_z F w hr hlocks (nar_z (by omega)) ⟨_, rfl, (by omega), rfl⟩ dX5_mayHaveIf_21
theorem dX5_step_0 : decode cX5_step 0 = .ok (.aload_n 0, 1) := rdX5_step_0
theorem dX5_step_1 : decode cX5_step 1 = .ok (.getfield 24, 3) := rdX5_step_1
theorem tb_468 : Cond.fieldLink "ToneLines$RuleReader" 24 "ToneLines$RuleReader" "end" "I" ∈ TB := rtb_21
theorem dX5_step_4 : decode cX5_step 4 = .ok (.istore_n 1, 1) := rdX5_step_4
theorem dX5_step_5 : decode cX5_step 5 = .ok (.aload_n 0, 1) := rdX5_step_5
theorem dX5_step_6 : decode cX5_step 6 = .ok (.aload_n 0, 1) := rdX5_step_6
theorem dX5_step_7 : decode cX5_step 7 = .ok (.getfield 31, 3) := rdX5_step_7
theorem tb_469 : Cond.fieldLink "ToneLines$RuleReader" 31 "ToneLines$RuleReader" "tape" "LToneLines$Tape;" ∈ TB := rtb_22
theorem dX5_step_10 : decode cX5_step 10 = .ok (.iload_n 1, 1) := rdX5_step_10
theorem dX5_step_11 : decode cX5_step 11 = .ok (.invokevirtual 48, 3) := rdX5_step_11
theorem tb_470 : Cond.methodLink "ToneLines$RuleReader" 48 yX8_skipBlanks ∈ TB := rtb_30
theorem gv_X5_48 : GoodIn TB (wsV RX5 48 RX8 yX8_skipBlanks (cw yX8_skipBlanks cX8_skipBlanks 3 (some .int))) := goodIn_4 tb_470 tb_435 tb_436 tb_297 gc_X8_skipBlanks
theorem dX5_step_14 : decode cX5_step 14 = .ok (.putfield 21, 3) := rdX5_step_14
theorem tb_471 : Cond.fieldLink "ToneLines$RuleReader" 21 "ToneLines$RuleReader" "start" "I" ∈ TB := rtb_33
theorem dX5_step_17 : decode cX5_step 17 = .ok (.aload_n 0, 1) := rdX5_step_17
theorem dX5_step_18 : decode cX5_step 18 = .ok (.aload_n 0, 1) := rdX5_step_18
theorem dX5_step_19 : decode cX5_step 19 = .ok (.getfield 21, 3) := rdX5_step_19
theorem dX5_step_22 : decode cX5_step 22 = .ok (.putfield 24, 3) := rdX5_step_22
theorem dX5_step_25 : decode cX5_step 25 = .ok (.aload_n 0, 1) := rdX5_step_25
theorem dX5_step_26 : decode cX5_step 26 = .ok (.getfield 24, 3) := rdX5_step_26
theorem dX5_step_29 : decode cX5_step 29 = .ok (.aload_n 0, 1) := rdX5_step_29
theorem dX5_step_30 : decode cX5_step 30 = .ok (.getfield 31, 3) := rdX5_step_30
theorem dX5_step_33 : decode cX5_step 33 = .ok (.getfield 39, 3) := rdX5_step_33
theorem tb_472 : Cond.fieldLink "ToneLines$RuleReader" 39 "ToneLines$Tape" "size" "I" ∈ TB := rtb_23
theorem dX5_step_36 : decode cX5_step 36 = .ok (.if_icmp .ge 33, 3) := rdX5_step_36
theorem dX5_step_69 : decode cX5_step 69 = .ok (.aload_n 0, 1) := rdX5_step_69
theorem dX5_step_70 : decode cX5_step 70 = .ok (.getfield 24, 3) := rdX5_step_70
theorem dX5_step_73 : decode cX5_step 73 = .ok (.aload_n 0, 1) := rdX5_step_73
theorem dX5_step_74 : decode cX5_step 74 = .ok (.getfield 21, 3) := rdX5_step_74
theorem dX5_step_77 : decode cX5_step 77 = .ok (.if_icmp .ne 27, 3) := rdX5_step_77
theorem dX5_step_104 : decode cX5_step 104 = .ok (.aload_n 0, 1) := rdX5_step_104
theorem dX5_step_105 : decode cX5_step 105 = .ok (.aload_n 0, 1) := rdX5_step_105
theorem dX5_step_106 : decode cX5_step 106 = .ok (.getfield 21, 3) := rdX5_step_106
theorem dX5_step_109 : decode cX5_step 109 = .ok (.iload_n 1, 1) := rdX5_step_109
theorem dX5_step_110 : decode cX5_step 110 = .ok (.if_icmp .ne 40, 3) := rdX5_step_110
theorem dX5_step_150 : decode cX5_step 150 = .ok (.iconst 0, 1) := rdX5_step_150
theorem dX5_step_151 : decode cX5_step 151 = .ok (.putfield 27, 3) := rdX5_step_151
theorem tb_473 : Cond.fieldLink "ToneLines$RuleReader" 27 "ToneLines$RuleReader" "joined" "Z" ∈ TB := rtb_34
theorem dX5_step_154 : decode cX5_step 154 = .ok (.return_, 1) := rdX5_step_154
theorem dX5_step_113 : decode cX5_step 113 = .ok (.aload_n 0, 1) := rdX5_step_113
theorem dX5_step_114 : decode cX5_step 114 = .ok (.getfield 31, 3) := rdX5_step_114
theorem dX5_step_117 : decode cX5_step 117 = .ok (.iload_n 1, 1) := rdX5_step_117
theorem dX5_step_118 : decode cX5_step 118 = .ok (.iconst 1, 1) := rdX5_step_118
theorem dX5_step_119 : decode cX5_step 119 = .ok (.isub, 1) := rdX5_step_119
theorem dX5_step_120 : decode cX5_step 120 = .ok (.invokevirtual 52, 3) := rdX5_step_120
theorem tb_474 : Cond.methodLink "ToneLines$RuleReader" 52 yX8_signAt ∈ TB := rtb_24
theorem gv_X5_52 : GoodIn TB (wsV RX5 52 RX8 yX8_signAt (cw yX8_signAt cX8_signAt 2 (some .int))) := goodIn_4 tb_474 tb_438 tb_439 tb_297 gc_X8_signAt
theorem dX5_step_123 : decode cX5_step 123 = .ok (.invokestatic 59, 3) := rdX5_step_123
theorem tk_X5_needsBlank : Cond.code yX5_needsBlank cX5_needsBlank 1 (some .boolean) ∈ TB := rtk_X5_needsBlank
theorem gc_X5_needsBlank : GoodIn TB (cw yX5_needsBlank cX5_needsBlank 1 (some .boolean)) := goodIn_c2 tk_X5_needsBlank
theorem tb_475 : Cond.methodLink "ToneLines$RuleReader" 59 yX5_needsBlank ∈ TB := rtb_35
theorem tb_476 : Cond.static yX5_needsBlank ∈ TB := rtb_36
theorem tb_477 : Cond.initialized "ToneLines$RuleReader" ∈ TB := rtb_37
theorem gs_X5_59 : GoodIn TB (va_wsS RX5 59 yX5_needsBlank (cw yX5_needsBlank cX5_needsBlank 1 (some .boolean))) := goodIn_3 tb_475 tb_476 tb_477 gc_X5_needsBlank
theorem hs_X5_needsBlank : yX5_needsBlank.cls ≠ "java/lang/invoke/MethodHandle" ∧ yX5_needsBlank.cls ≠ "java/lang/invoke/VarHandle" ∧ (parseMethodDescriptor yX5_needsBlank.desc).map (fun d => d.parameters.length) = some 1 := rhs_X5_needsBlank
theorem dX5_step_126 : decode cX5_step 126 = .ok (.ifCond .eq 24, 3) := rdX5_step_126
theorem dX5_step_129 : decode cX5_step 129 = .ok (.aload_n 0, 1) := rdX5_step_129
theorem dX5_step_130 : decode cX5_step 130 = .ok (.getfield 31, 3) := rdX5_step_130
theorem dX5_step_133 : decode cX5_step 133 = .ok (.aload_n 0, 1) := rdX5_step_133
theorem dX5_step_134 : decode cX5_step 134 = .ok (.getfield 21, 3) := rdX5_step_134
theorem dX5_step_137 : decode cX5_step 137 = .ok (.invokevirtual 52, 3) := rdX5_step_137
theorem dX5_step_140 : decode cX5_step 140 = .ok (.invokestatic 59, 3) := rdX5_step_140
theorem dX5_step_143 : decode cX5_step 143 = .ok (.ifCond .eq 7, 3) := rdX5_step_143
theorem dX5_step_146 : decode cX5_step 146 = .ok (.iconst 1, 1) := rdX5_step_146
theorem dX5_step_147 : decode cX5_step 147 = .ok (.goto 4, 3) := rdX5_step_147
theorem dX5_step_80 : decode cX5_step 80 = .ok (.aload_n 0, 1) := rdX5_step_80
theorem dX5_step_81 : decode cX5_step 81 = .ok (.getfield 24, 3) := rdX5_step_81
theorem dX5_step_84 : decode cX5_step 84 = .ok (.aload_n 0, 1) := rdX5_step_84
theorem dX5_step_85 : decode cX5_step 85 = .ok (.getfield 31, 3) := rdX5_step_85
theorem dX5_step_88 : decode cX5_step 88 = .ok (.getfield 39, 3) := rdX5_step_88
theorem dX5_step_91 : decode cX5_step 91 = .ok (.if_icmp .ge 13, 3) := rdX5_step_91
theorem dX5_step_94 : decode cX5_step 94 = .ok (.aload_n 0, 1) := rdX5_step_94
theorem dX5_step_95 : decode cX5_step 95 = .ok (.dup, 1) := rdX5_step_95
theorem dX5_step_96 : decode cX5_step 96 = .ok (.getfield 24, 3) := rdX5_step_96
theorem dX5_step_99 : decode cX5_step 99 = .ok (.iconst 1, 1) := rdX5_step_99
theorem dX5_step_100 : decode cX5_step 100 = .ok (.iadd, 1) := rdX5_step_100
theorem dX5_step_101 : decode cX5_step 101 = .ok (.putfield 24, 3) := rdX5_step_101
theorem dX5_step_39 : decode cX5_step 39 = .ok (.aload_n 0, 1) := rdX5_step_39
theorem dX5_step_40 : decode cX5_step 40 = .ok (.getfield 31, 3) := rdX5_step_40
theorem dX5_step_43 : decode cX5_step 43 = .ok (.aload_n 0, 1) := rdX5_step_43
theorem dX5_step_44 : decode cX5_step 44 = .ok (.getfield 24, 3) := rdX5_step_44
theorem dX5_step_47 : decode cX5_step 47 = .ok (.invokevirtual 52, 3) := rdX5_step_47
theorem dX5_step_50 : decode cX5_step 50 = .ok (.invokestatic 55, 3) := rdX5_step_50
theorem tk_X11_isLetter : Cond.code yX11_isLetter cX11_isLetter 1 (some .boolean) ∈ TB := rtk_X11_isLetter
theorem gc_X11_isLetter : GoodIn TB (cw yX11_isLetter cX11_isLetter 1 (some .boolean)) := goodIn_c2 tk_X11_isLetter
theorem hs_X11_isLetter : yX11_isLetter.cls ≠ "java/lang/invoke/MethodHandle" ∧ yX11_isLetter.cls ≠ "java/lang/invoke/VarHandle" ∧ (parseMethodDescriptor yX11_isLetter.desc).map (fun d => d.parameters.length) = some 1 := rhs_X11_isLetter
theorem tb_478 : Cond.static yX11_isLetter ∈ TB := rtb_29
theorem dX5_step_53 : decode cX5_step 53 = .ok (.ifCond .eq 16, 3) := rdX5_step_53
theorem dX5_step_56 : decode cX5_step 56 = .ok (.aload_n 0, 1) := rdX5_step_56
theorem dX5_step_57 : decode cX5_step 57 = .ok (.dup, 1) := rdX5_step_57
theorem dX5_step_58 : decode cX5_step 58 = .ok (.getfield 24, 3) := rdX5_step_58
theorem dX5_step_61 : decode cX5_step 61 = .ok (.iconst 1, 1) := rdX5_step_61
theorem dX5_step_62 : decode cX5_step 62 = .ok (.iadd, 1) := rdX5_step_62
theorem dX5_step_63 : decode cX5_step 63 = .ok (.putfield 24, 3) := rdX5_step_63
theorem dX5_step_66 : decode cX5_step 66 = .ok (.goto (-41), 3) := rdX5_step_66
set_option maxHeartbeats 4000000 in
set_option maxRecDepth 4000 in
theorem q_X5_step {l : Launch} {D : va_G} {B : Nat} {cy : Nat → ClassId} {M : Mem}  (hI : Inv M) : Cv l D B cy yX5_step cX5_step 2 1 22 [.ref (B + 4)] M (fun M1 => Inv M1 ∧ Fr (fun b9 k9 => (b9 = 4 ∧ k9 = 3) ∨ (b9 = 4 ∧ k9 = 4) ∨ (b9 = 4 ∧ k9 = 5)) M1 M) := by
  refine s_anyQ (by decide) (Nat.le_of_ble_eq_true rfl) ?_
  intro p e s m args below meth c ls Q F hr hlocks hQ w hl
  have F : CallFix p m c cX5_step 2 s args TB RX5 := F
  have hx := F.1
  have hb := F.2.1
  have hl : lv_has ls 2 [(0, .ref (B + 4))] := hl
  have hF : Fr (fun b9 k9 => (b9 = 4 ∧ k9 = 3) ∨ (b9 = 4 ∧ k9 = 4) ∨ (b9 = 4 ∧ k9 = 5)) M M := Fr.rf
  refine lv_aload_n hx hb dX5_step_0 rfl (lv_at hl 0 rfl) ?_
  refine f_5_4 F w (a := 4) rfl tb_468 dX5_step_1 ?_
  obtain ⟨z1, bz1, ez1⟩ := Inv.ld (k := 4) hI (show iv 4 4 = ((-2147483648), 2147483647) from rfl) (show 4 < 146 by decide)
  refine r_val ez1 ?_
  refine lv_istore_n (lv' := [(1, .int (zI z1)), (0, .ref (B + 4))]) hx hb dX5_step_4 rfl hl (by decide) rfl (fun ls hl => ?_)
  refine lv_aload_n hx hb dX5_step_5 rfl (lv_at hl 1 rfl) ?_
  refine lv_aload_n hx hb dX5_step_6 rfl (lv_at hl 1 rfl) ?_
  refine f_5_0 F w (a := 4) rfl tb_469 dX5_step_7 ?_
  refine lv_iload_n hx hb dX5_step_10 rfl (lv_at hl 0 rfl) ?_
  refine k_Vi F w (As := [.int (zI z1)]) (rest := [.ref (B + 4)]) (a := 1) (kd_lt (a := 1) (show kd 1 = (8, 0, 0) from rfl) (by decide)) (sh_8 rfl _ _) rfl (q_X8_skipBlanks (x := z1) (by omega)  hI) gv_X5_48 hv_X8_skipBlanks ⟨(Nat.le_of_ble_eq_true rfl), (Nat.le_of_ble_eq_true rfl)⟩ hl.1 rfl (Nat.le_of_ble_eq_true rfl) ⟨Nat.zero_le _, Nat.zero_le _⟩ dX5_step_11 (fun r2 N3 H locs hp w => ?_)
  obtain ⟨z4, rfl, bz4, xz4, hMN3⟩ := hp
  rw [hMN3] at w
  refine u_5_3 F w (a := 4) rfl tb_471 dX5_step_14 (fun H locs w => ?_)
  refine lv_aload_n hx hb dX5_step_17 rfl (lv_at hl 1 rfl) ?_
  refine lv_aload_n hx hb dX5_step_18 rfl (lv_at hl 1 rfl) ?_
  refine f_5_3 F w (a := 4) rfl tb_471 dX5_step_19 ?_
  refine r_val (v := zI z4) (st_at) ?_
  refine u_5_4 F w (a := 4) rfl tb_468 dX5_step_22 (fun H locs w => ?_)
  have lp25 : ∀ (f : Nat)  (g4_4_25 : Int) (NL25 : Mem), ((-2147483648) ≤ g4_4_25 ∧ g4_4_25 ≤ 2147483647) → NL25.1 4 4 = zI g4_4_25 → NL25.1 4 3 = zI z4 → Inv NL25 → Fr (fun b9 k9 => (b9 = 4 ∧ k9 = 3) ∨ (b9 = 4 ∧ k9 = 4) ∨ (b9 = 4 ∧ k9 = 5)) NL25 M → (Int.toNat (300 - g4_4_25) < f) → ∀ (H : Heap) (locs : List Loc) (ls : Array Slot), Wd D B cy s s.heap NL25 H locs → lv_has ls 2 [(1, .int (zI z1)), (0, .ref (B + 4))] → W p l e (rmm 1 22) s m args below meth c H locs 0 0 Q (F0 m 25 ls []) := by
    intro f
    induction f with
    | zero => intros; omega
    | succ f ih25 =>
      intro  g4_4_25 NL25 ig4_4_25 eg4_4_25 eg4_3_25 hIL25 hFL25 hf25 H locs ls w hl
      refine lv_aload_n hx hb dX5_step_25 rfl (lv_at hl 1 rfl) ?_
      refine f_5_4 F w (a := 4) rfl tb_468 dX5_step_26 ?_
      refine r_val (v := zI g4_4_25) (eg4_4_25) ?_
      refine lv_aload_n hx hb dX5_step_29 rfl (lv_at hl 1 rfl) ?_
      refine f_5_0 F w (a := 4) rfl tb_469 dX5_step_30 ?_
      refine f_8_1 F w (a := 1) rfl tb_472 dX5_step_33 ?_
      obtain ⟨z5, bz5, ez5⟩ := Inv.ld (k := 1) hIL25 (show iv 1 1 = (0, 300) from rfl) (show 1 < 146 by decide)
      refine r_val ez5 ?_
      refine z_icmp_ge (tgt := 69) hx hb (by omega) (by omega) dX5_step_36 (by decide) (fun c6 => ?_) (fun c6 => ?_)
      · refine lv_aload_n hx hb dX5_step_69 rfl (lv_at hl 1 rfl) ?_
        refine f_5_4 F w (a := 4) rfl tb_468 dX5_step_70 ?_
        refine r_val (v := zI g4_4_25) (eg4_4_25) ?_
        refine lv_aload_n hx hb dX5_step_73 rfl (lv_at hl 1 rfl) ?_
        refine f_5_3 F w (a := 4) rfl tb_471 dX5_step_74 ?_
        refine r_val (v := zI z4) (eg4_3_25) ?_
        refine z_icmp_ne (tgt := 104) hx hb (by omega) (by omega) dX5_step_77 (by decide) (fun c7 => ?_) (fun c7 => ?_)
        · refine lv_aload_n hx hb dX5_step_104 rfl (lv_at hl 1 rfl) ?_
          refine lv_aload_n hx hb dX5_step_105 rfl (lv_at hl 1 rfl) ?_
          refine f_5_3 F w (a := 4) rfl tb_471 dX5_step_106 ?_
          refine r_val (v := zI z4) (eg4_3_25) ?_
          refine lv_iload_n hx hb dX5_step_109 rfl (lv_at hl 0 rfl) ?_
          refine z_icmp_ne (tgt := 150) hx hb (by omega) (by omega) dX5_step_110 (by decide) (fun c8 => ?_) (fun c8 => ?_)
          · refine lv_iconst (v := zI 0) hx hb dX5_step_150 rfl ?_
            refine u_5_5 F w (a := 4) rfl (nar_z (by omega)) (fit_z (by omega)) tb_473 dX5_step_151 (fun H locs w => ?_)
            rw [hQ]
            exact e_v F w hr hlocks ⟨(Inv.to hIL25 (a := 4) (k := 5) (x := 0) (show iv 4 5 = (0, 1) from rfl) (by omega)), (Fr.to hFL25 (by first | omega | (dsimp only; first | done | omega)))⟩ dX5_step_154
          · refine lv_aload_n hx hb dX5_step_113 rfl (lv_at hl 1 rfl) ?_
            refine f_5_0 F w (a := 4) rfl tb_469 dX5_step_114 ?_
            refine lv_iload_n hx hb dX5_step_117 rfl (lv_at hl 0 rfl) ?_
            refine lv_iconst (v := zI 1) hx hb dX5_step_118 rfl ?_
            obtain ⟨z9, bz9, x0z9, ez9⟩ := sub_ex z1 1
            refine lv_isub hx hb dX5_step_119 ?_
            refine r_val ez9 ?_
            refine k_Vi F w (As := [.int (zI z9)]) (rest := [.ref (B + 4)]) (a := 1) (kd_lt (a := 1) (show kd 1 = (8, 0, 0) from rfl) (by decide)) (sh_8 rfl _ _) rfl (q_X8_signAt (x := z9) (by omega)  hIL25) gv_X5_52 hv_X8_signAt ⟨(Nat.le_of_ble_eq_true rfl), (Nat.le_of_ble_eq_true rfl)⟩ hl.1 rfl (Nat.le_of_ble_eq_true rfl) ⟨Nat.zero_le _, Nat.zero_le _⟩ dX5_step_120 (fun r10 N11 H locs hp w => ?_)
            obtain ⟨z12, rfl, bz12, xz12, hMN11⟩ := hp
            rw [hMN11] at w
            refine k_Si F w (As := [.int (zI z12)]) (rest := [.ref (B + 4)]) (q_X5_needsBlank (x := z12) (by omega)  hIL25) gs_X5_59 hs_X5_needsBlank ⟨(Nat.le_of_ble_eq_true rfl), (Nat.le_of_ble_eq_true rfl)⟩ hl.1 rfl (Nat.le_of_ble_eq_true rfl) ⟨Nat.zero_le _, Nat.zero_le _⟩ dX5_step_123 (fun r13 N14 H locs hp w => ?_)
            obtain ⟨z15, rfl, bz15, hMN14⟩ := hp
            rw [hMN14] at w
            refine z_if_eq (tgt := 150) hx hb (by omega) dX5_step_126 (by decide) (fun c16 => ?_) (fun c16 => ?_)
            · refine lv_iconst (v := zI 0) hx hb dX5_step_150 rfl ?_
              refine u_5_5 F w (a := 4) rfl (nar_z (by omega)) (fit_z (by omega)) tb_473 dX5_step_151 (fun H locs w => ?_)
              rw [hQ]
              exact e_v F w hr hlocks ⟨(Inv.to hIL25 (a := 4) (k := 5) (x := 0) (show iv 4 5 = (0, 1) from rfl) (by omega)), (Fr.to hFL25 (by first | omega | (dsimp only; first | done | omega)))⟩ dX5_step_154
            · refine lv_aload_n hx hb dX5_step_129 rfl (lv_at hl 1 rfl) ?_
              refine f_5_0 F w (a := 4) rfl tb_469 dX5_step_130 ?_
              refine lv_aload_n hx hb dX5_step_133 rfl (lv_at hl 1 rfl) ?_
              refine f_5_3 F w (a := 4) rfl tb_471 dX5_step_134 ?_
              refine r_val (v := zI z4) (eg4_3_25) ?_
              refine k_Vi F w (As := [.int (zI z4)]) (rest := [.ref (B + 4)]) (a := 1) (kd_lt (a := 1) (show kd 1 = (8, 0, 0) from rfl) (by decide)) (sh_8 rfl _ _) rfl (q_X8_signAt (x := z4) (by omega)  hIL25) gv_X5_52 hv_X8_signAt ⟨(Nat.le_of_ble_eq_true rfl), (Nat.le_of_ble_eq_true rfl)⟩ hl.1 rfl (Nat.le_of_ble_eq_true rfl) ⟨Nat.zero_le _, Nat.zero_le _⟩ dX5_step_137 (fun r17 N18 H locs hp w => ?_)
              obtain ⟨z19, rfl, bz19, xz19, hMN18⟩ := hp
              rw [hMN18] at w
              refine k_Si F w (As := [.int (zI z19)]) (rest := [.ref (B + 4)]) (q_X5_needsBlank (x := z19) (by omega)  hIL25) gs_X5_59 hs_X5_needsBlank ⟨(Nat.le_of_ble_eq_true rfl), (Nat.le_of_ble_eq_true rfl)⟩ hl.1 rfl (Nat.le_of_ble_eq_true rfl) ⟨Nat.zero_le _, Nat.zero_le _⟩ dX5_step_140 (fun r20 N21 H locs hp w => ?_)
              obtain ⟨z22, rfl, bz22, hMN21⟩ := hp
              rw [hMN21] at w
              refine z_if_eq (tgt := 150) hx hb (by omega) dX5_step_143 (by decide) (fun c23 => ?_) (fun c23 => ?_)
              · refine lv_iconst (v := zI 0) hx hb dX5_step_150 rfl ?_
                refine u_5_5 F w (a := 4) rfl (nar_z (by omega)) (fit_z (by omega)) tb_473 dX5_step_151 (fun H locs w => ?_)
                rw [hQ]
                exact e_v F w hr hlocks ⟨(Inv.to hIL25 (a := 4) (k := 5) (x := 0) (show iv 4 5 = (0, 1) from rfl) (by omega)), (Fr.to hFL25 (by first | omega | (dsimp only; first | done | omega)))⟩ dX5_step_154
              · refine lv_iconst (v := zI 1) hx hb dX5_step_146 rfl ?_
                refine lv_goto (tgt := 151) hx hb dX5_step_147 (by decide) ?_
                refine u_5_5 F w (a := 4) rfl (nar_z (by omega)) (fit_z (by omega)) tb_473 dX5_step_151 (fun H locs w => ?_)
                rw [hQ]
                exact e_v F w hr hlocks ⟨(Inv.to hIL25 (a := 4) (k := 5) (x := 1) (show iv 4 5 = (0, 1) from rfl) (by omega)), (Fr.to hFL25 (by first | omega | (dsimp only; first | done | omega)))⟩ dX5_step_154
        · refine lv_aload_n hx hb dX5_step_80 rfl (lv_at hl 1 rfl) ?_
          refine f_5_4 F w (a := 4) rfl tb_468 dX5_step_81 ?_
          refine r_val (v := zI g4_4_25) (eg4_4_25) ?_
          refine lv_aload_n hx hb dX5_step_84 rfl (lv_at hl 1 rfl) ?_
          refine f_5_0 F w (a := 4) rfl tb_469 dX5_step_85 ?_
          refine f_8_1 F w (a := 1) rfl tb_472 dX5_step_88 ?_
          refine r_val (v := zI z5) (ez5) ?_
          refine z_icmp_ge (tgt := 104) hx hb (by omega) (by omega) dX5_step_91 (by decide) (fun c24 => ?_) (fun c24 => ?_)
          · refine lv_aload_n hx hb dX5_step_104 rfl (lv_at hl 1 rfl) ?_
            refine lv_aload_n hx hb dX5_step_105 rfl (lv_at hl 1 rfl) ?_
            refine f_5_3 F w (a := 4) rfl tb_471 dX5_step_106 ?_
            refine r_val (v := zI z4) (eg4_3_25) ?_
            refine lv_iload_n hx hb dX5_step_109 rfl (lv_at hl 0 rfl) ?_
            refine z_icmp_ne (tgt := 150) hx hb (by omega) (by omega) dX5_step_110 (by decide) (fun c25 => ?_) (fun c25 => ?_)
            · refine lv_iconst (v := zI 0) hx hb dX5_step_150 rfl ?_
              refine u_5_5 F w (a := 4) rfl (nar_z (by omega)) (fit_z (by omega)) tb_473 dX5_step_151 (fun H locs w => ?_)
              rw [hQ]
              exact e_v F w hr hlocks ⟨(Inv.to hIL25 (a := 4) (k := 5) (x := 0) (show iv 4 5 = (0, 1) from rfl) (by omega)), (Fr.to hFL25 (by first | omega | (dsimp only; first | done | omega)))⟩ dX5_step_154
            · refine lv_aload_n hx hb dX5_step_113 rfl (lv_at hl 1 rfl) ?_
              refine f_5_0 F w (a := 4) rfl tb_469 dX5_step_114 ?_
              refine lv_iload_n hx hb dX5_step_117 rfl (lv_at hl 0 rfl) ?_
              refine lv_iconst (v := zI 1) hx hb dX5_step_118 rfl ?_
              refine z_isub (z := (z1 - 1)) hx hb dX5_step_119 (by omega) ?_
              refine k_Vi F w (As := [.int (zI (z1 - 1))]) (rest := [.ref (B + 4)]) (a := 1) (kd_lt (a := 1) (show kd 1 = (8, 0, 0) from rfl) (by decide)) (sh_8 rfl _ _) rfl (q_X8_signAt (x := (z1 - 1)) (by omega)  hIL25) gv_X5_52 hv_X8_signAt ⟨(Nat.le_of_ble_eq_true rfl), (Nat.le_of_ble_eq_true rfl)⟩ hl.1 rfl (Nat.le_of_ble_eq_true rfl) ⟨Nat.zero_le _, Nat.zero_le _⟩ dX5_step_120 (fun r26 N27 H locs hp w => ?_)
              obtain ⟨z28, rfl, bz28, xz28, hMN27⟩ := hp
              rw [hMN27] at w
              refine k_Si F w (As := [.int (zI z28)]) (rest := [.ref (B + 4)]) (q_X5_needsBlank (x := z28) (by omega)  hIL25) gs_X5_59 hs_X5_needsBlank ⟨(Nat.le_of_ble_eq_true rfl), (Nat.le_of_ble_eq_true rfl)⟩ hl.1 rfl (Nat.le_of_ble_eq_true rfl) ⟨Nat.zero_le _, Nat.zero_le _⟩ dX5_step_123 (fun r29 N30 H locs hp w => ?_)
              obtain ⟨z31, rfl, bz31, hMN30⟩ := hp
              rw [hMN30] at w
              refine z_if_eq (tgt := 150) hx hb (by omega) dX5_step_126 (by decide) (fun c32 => ?_) (fun c32 => ?_)
              · refine lv_iconst (v := zI 0) hx hb dX5_step_150 rfl ?_
                refine u_5_5 F w (a := 4) rfl (nar_z (by omega)) (fit_z (by omega)) tb_473 dX5_step_151 (fun H locs w => ?_)
                rw [hQ]
                exact e_v F w hr hlocks ⟨(Inv.to hIL25 (a := 4) (k := 5) (x := 0) (show iv 4 5 = (0, 1) from rfl) (by omega)), (Fr.to hFL25 (by first | omega | (dsimp only; first | done | omega)))⟩ dX5_step_154
              · refine lv_aload_n hx hb dX5_step_129 rfl (lv_at hl 1 rfl) ?_
                refine f_5_0 F w (a := 4) rfl tb_469 dX5_step_130 ?_
                refine lv_aload_n hx hb dX5_step_133 rfl (lv_at hl 1 rfl) ?_
                refine f_5_3 F w (a := 4) rfl tb_471 dX5_step_134 ?_
                refine r_val (v := zI z4) (eg4_3_25) ?_
                refine k_Vi F w (As := [.int (zI z4)]) (rest := [.ref (B + 4)]) (a := 1) (kd_lt (a := 1) (show kd 1 = (8, 0, 0) from rfl) (by decide)) (sh_8 rfl _ _) rfl (q_X8_signAt (x := z4) (by omega)  hIL25) gv_X5_52 hv_X8_signAt ⟨(Nat.le_of_ble_eq_true rfl), (Nat.le_of_ble_eq_true rfl)⟩ hl.1 rfl (Nat.le_of_ble_eq_true rfl) ⟨Nat.zero_le _, Nat.zero_le _⟩ dX5_step_137 (fun r33 N34 H locs hp w => ?_)
                obtain ⟨z35, rfl, bz35, xz35, hMN34⟩ := hp
                rw [hMN34] at w
                refine k_Si F w (As := [.int (zI z35)]) (rest := [.ref (B + 4)]) (q_X5_needsBlank (x := z35) (by omega)  hIL25) gs_X5_59 hs_X5_needsBlank ⟨(Nat.le_of_ble_eq_true rfl), (Nat.le_of_ble_eq_true rfl)⟩ hl.1 rfl (Nat.le_of_ble_eq_true rfl) ⟨Nat.zero_le _, Nat.zero_le _⟩ dX5_step_140 (fun r36 N37 H locs hp w => ?_)
                obtain ⟨z38, rfl, bz38, hMN37⟩ := hp
                rw [hMN37] at w
                refine z_if_eq (tgt := 150) hx hb (by omega) dX5_step_143 (by decide) (fun c39 => ?_) (fun c39 => ?_)
                · refine lv_iconst (v := zI 0) hx hb dX5_step_150 rfl ?_
                  refine u_5_5 F w (a := 4) rfl (nar_z (by omega)) (fit_z (by omega)) tb_473 dX5_step_151 (fun H locs w => ?_)
                  rw [hQ]
                  exact e_v F w hr hlocks ⟨(Inv.to hIL25 (a := 4) (k := 5) (x := 0) (show iv 4 5 = (0, 1) from rfl) (by omega)), (Fr.to hFL25 (by first | omega | (dsimp only; first | done | omega)))⟩ dX5_step_154
                · refine lv_iconst (v := zI 1) hx hb dX5_step_146 rfl ?_
                  refine lv_goto (tgt := 151) hx hb dX5_step_147 (by decide) ?_
                  refine u_5_5 F w (a := 4) rfl (nar_z (by omega)) (fit_z (by omega)) tb_473 dX5_step_151 (fun H locs w => ?_)
                  rw [hQ]
                  exact e_v F w hr hlocks ⟨(Inv.to hIL25 (a := 4) (k := 5) (x := 1) (show iv 4 5 = (0, 1) from rfl) (by omega)), (Fr.to hFL25 (by first | omega | (dsimp only; first | done | omega)))⟩ dX5_step_154
          · refine lv_aload_n hx hb dX5_step_94 rfl (lv_at hl 1 rfl) ?_
            refine lv_dup hx hb dX5_step_95 rfl ?_
            refine f_5_4 F w (a := 4) rfl tb_468 dX5_step_96 ?_
            refine r_val (v := zI g4_4_25) (eg4_4_25) ?_
            refine lv_iconst (v := zI 1) hx hb dX5_step_99 rfl ?_
            refine z_iadd (z := (g4_4_25 + 1)) hx hb dX5_step_100 (by omega) ?_
            refine u_5_4 F w (a := 4) rfl tb_468 dX5_step_101 (fun H locs w => ?_)
            refine lv_aload_n hx hb dX5_step_104 rfl (lv_at hl 1 rfl) ?_
            refine lv_aload_n hx hb dX5_step_105 rfl (lv_at hl 1 rfl) ?_
            refine f_5_3 F w (a := 4) rfl tb_471 dX5_step_106 ?_
            refine r_val (v := zI z4) ((st_ne (Or.inr (by decide))).trans eg4_3_25) ?_
            refine lv_iload_n hx hb dX5_step_109 rfl (lv_at hl 0 rfl) ?_
            refine z_icmp_ne (tgt := 150) hx hb (by omega) (by omega) dX5_step_110 (by decide) (fun c40 => ?_) (fun c40 => ?_)
            · refine lv_iconst (v := zI 0) hx hb dX5_step_150 rfl ?_
              refine u_5_5 F w (a := 4) rfl (nar_z (by omega)) (fit_z (by omega)) tb_473 dX5_step_151 (fun H locs w => ?_)
              rw [hQ]
              exact e_v F w hr hlocks ⟨(Inv.to (Inv.to hIL25 (a := 4) (k := 4) (x := (g4_4_25 + 1)) (show iv 4 4 = ((-2147483648), 2147483647) from rfl) (by omega)) (a := 4) (k := 5) (x := 0) (show iv 4 5 = (0, 1) from rfl) (by omega)), (Fr.to (Fr.to hFL25 (by first | omega | (dsimp only; first | done | omega))) (by first | omega | (dsimp only; first | done | omega)))⟩ dX5_step_154
            · refine lv_aload_n hx hb dX5_step_113 rfl (lv_at hl 1 rfl) ?_
              refine f_5_0 F w (a := 4) rfl tb_469 dX5_step_114 ?_
              refine lv_iload_n hx hb dX5_step_117 rfl (lv_at hl 0 rfl) ?_
              refine lv_iconst (v := zI 1) hx hb dX5_step_118 rfl ?_
              refine z_isub (z := (z1 - 1)) hx hb dX5_step_119 (by omega) ?_
              refine k_Vi F w (As := [.int (zI (z1 - 1))]) (rest := [.ref (B + 4)]) (a := 1) (kd_lt (a := 1) (show kd 1 = (8, 0, 0) from rfl) (by decide)) (sh_8 rfl _ _) rfl (q_X8_signAt (x := (z1 - 1)) (by omega)  (Inv.to hIL25 (a := 4) (k := 4) (x := (g4_4_25 + 1)) (show iv 4 4 = ((-2147483648), 2147483647) from rfl) (by omega))) gv_X5_52 hv_X8_signAt ⟨(Nat.le_of_ble_eq_true rfl), (Nat.le_of_ble_eq_true rfl)⟩ hl.1 rfl (Nat.le_of_ble_eq_true rfl) ⟨Nat.zero_le _, Nat.zero_le _⟩ dX5_step_120 (fun r41 N42 H locs hp w => ?_)
              obtain ⟨z43, rfl, bz43, xz43, hMN42⟩ := hp
              rw [hMN42] at w
              refine k_Si F w (As := [.int (zI z43)]) (rest := [.ref (B + 4)]) (q_X5_needsBlank (x := z43) (by omega)  (Inv.to hIL25 (a := 4) (k := 4) (x := (g4_4_25 + 1)) (show iv 4 4 = ((-2147483648), 2147483647) from rfl) (by omega))) gs_X5_59 hs_X5_needsBlank ⟨(Nat.le_of_ble_eq_true rfl), (Nat.le_of_ble_eq_true rfl)⟩ hl.1 rfl (Nat.le_of_ble_eq_true rfl) ⟨Nat.zero_le _, Nat.zero_le _⟩ dX5_step_123 (fun r44 N45 H locs hp w => ?_)
              obtain ⟨z46, rfl, bz46, hMN45⟩ := hp
              rw [hMN45] at w
              refine z_if_eq (tgt := 150) hx hb (by omega) dX5_step_126 (by decide) (fun c47 => ?_) (fun c47 => ?_)
              · refine lv_iconst (v := zI 0) hx hb dX5_step_150 rfl ?_
                refine u_5_5 F w (a := 4) rfl (nar_z (by omega)) (fit_z (by omega)) tb_473 dX5_step_151 (fun H locs w => ?_)
                rw [hQ]
                exact e_v F w hr hlocks ⟨(Inv.to (Inv.to hIL25 (a := 4) (k := 4) (x := (g4_4_25 + 1)) (show iv 4 4 = ((-2147483648), 2147483647) from rfl) (by omega)) (a := 4) (k := 5) (x := 0) (show iv 4 5 = (0, 1) from rfl) (by omega)), (Fr.to (Fr.to hFL25 (by first | omega | (dsimp only; first | done | omega))) (by first | omega | (dsimp only; first | done | omega)))⟩ dX5_step_154
              · refine lv_aload_n hx hb dX5_step_129 rfl (lv_at hl 1 rfl) ?_
                refine f_5_0 F w (a := 4) rfl tb_469 dX5_step_130 ?_
                refine lv_aload_n hx hb dX5_step_133 rfl (lv_at hl 1 rfl) ?_
                refine f_5_3 F w (a := 4) rfl tb_471 dX5_step_134 ?_
                refine r_val (v := zI z4) ((st_ne (Or.inr (by decide))).trans eg4_3_25) ?_
                refine k_Vi F w (As := [.int (zI z4)]) (rest := [.ref (B + 4)]) (a := 1) (kd_lt (a := 1) (show kd 1 = (8, 0, 0) from rfl) (by decide)) (sh_8 rfl _ _) rfl (q_X8_signAt (x := z4) (by omega)  (Inv.to hIL25 (a := 4) (k := 4) (x := (g4_4_25 + 1)) (show iv 4 4 = ((-2147483648), 2147483647) from rfl) (by omega))) gv_X5_52 hv_X8_signAt ⟨(Nat.le_of_ble_eq_true rfl), (Nat.le_of_ble_eq_true rfl)⟩ hl.1 rfl (Nat.le_of_ble_eq_true rfl) ⟨Nat.zero_le _, Nat.zero_le _⟩ dX5_step_137 (fun r48 N49 H locs hp w => ?_)
                obtain ⟨z50, rfl, bz50, xz50, hMN49⟩ := hp
                rw [hMN49] at w
                refine k_Si F w (As := [.int (zI z50)]) (rest := [.ref (B + 4)]) (q_X5_needsBlank (x := z50) (by omega)  (Inv.to hIL25 (a := 4) (k := 4) (x := (g4_4_25 + 1)) (show iv 4 4 = ((-2147483648), 2147483647) from rfl) (by omega))) gs_X5_59 hs_X5_needsBlank ⟨(Nat.le_of_ble_eq_true rfl), (Nat.le_of_ble_eq_true rfl)⟩ hl.1 rfl (Nat.le_of_ble_eq_true rfl) ⟨Nat.zero_le _, Nat.zero_le _⟩ dX5_step_140 (fun r51 N52 H locs hp w => ?_)
                obtain ⟨z53, rfl, bz53, hMN52⟩ := hp
                rw [hMN52] at w
                refine z_if_eq (tgt := 150) hx hb (by omega) dX5_step_143 (by decide) (fun c54 => ?_) (fun c54 => ?_)
                · refine lv_iconst (v := zI 0) hx hb dX5_step_150 rfl ?_
                  refine u_5_5 F w (a := 4) rfl (nar_z (by omega)) (fit_z (by omega)) tb_473 dX5_step_151 (fun H locs w => ?_)
                  rw [hQ]
                  exact e_v F w hr hlocks ⟨(Inv.to (Inv.to hIL25 (a := 4) (k := 4) (x := (g4_4_25 + 1)) (show iv 4 4 = ((-2147483648), 2147483647) from rfl) (by omega)) (a := 4) (k := 5) (x := 0) (show iv 4 5 = (0, 1) from rfl) (by omega)), (Fr.to (Fr.to hFL25 (by first | omega | (dsimp only; first | done | omega))) (by first | omega | (dsimp only; first | done | omega)))⟩ dX5_step_154
                · refine lv_iconst (v := zI 1) hx hb dX5_step_146 rfl ?_
                  refine lv_goto (tgt := 151) hx hb dX5_step_147 (by decide) ?_
                  refine u_5_5 F w (a := 4) rfl (nar_z (by omega)) (fit_z (by omega)) tb_473 dX5_step_151 (fun H locs w => ?_)
                  rw [hQ]
                  exact e_v F w hr hlocks ⟨(Inv.to (Inv.to hIL25 (a := 4) (k := 4) (x := (g4_4_25 + 1)) (show iv 4 4 = ((-2147483648), 2147483647) from rfl) (by omega)) (a := 4) (k := 5) (x := 1) (show iv 4 5 = (0, 1) from rfl) (by omega)), (Fr.to (Fr.to hFL25 (by first | omega | (dsimp only; first | done | omega))) (by first | omega | (dsimp only; first | done | omega)))⟩ dX5_step_154
      · refine lv_aload_n hx hb dX5_step_39 rfl (lv_at hl 1 rfl) ?_
        refine f_5_0 F w (a := 4) rfl tb_469 dX5_step_40 ?_
        refine lv_aload_n hx hb dX5_step_43 rfl (lv_at hl 1 rfl) ?_
        refine f_5_4 F w (a := 4) rfl tb_468 dX5_step_44 ?_
        refine r_val (v := zI g4_4_25) (eg4_4_25) ?_
        refine k_Vi F w (As := [.int (zI g4_4_25)]) (rest := []) (a := 1) (kd_lt (a := 1) (show kd 1 = (8, 0, 0) from rfl) (by decide)) (sh_8 rfl _ _) rfl (q_X8_signAt (x := g4_4_25) (by omega)  hIL25) gv_X5_52 hv_X8_signAt ⟨(Nat.le_of_ble_eq_true rfl), (Nat.le_of_ble_eq_true rfl)⟩ hl.1 rfl (Nat.le_of_ble_eq_true rfl) ⟨Nat.zero_le _, Nat.zero_le _⟩ dX5_step_47 (fun r55 N56 H locs hp w => ?_)
        obtain ⟨z57, rfl, bz57, xz57, hMN56⟩ := hp
        rw [hMN56] at w
        refine k_Ni F w (As := [.int (zI z57)]) (rest := []) (q_X11_isLetter (x := z57) (by omega)  hIL25) gc_X11_isLetter tb_95 tb_478 (by decide) hs_X11_isLetter ⟨(Nat.le_of_ble_eq_true rfl), (Nat.le_of_ble_eq_true rfl)⟩ hl.1 rfl (Nat.le_of_ble_eq_true rfl) ⟨Nat.zero_le _, Nat.zero_le _⟩ dX5_step_50 (fun r58 N59 H locs hp w => ?_)
        obtain ⟨z60, rfl, bz60, xz60, hMN59⟩ := hp
        rw [hMN59] at w
        refine z_if_eq (tgt := 69) hx hb (by omega) dX5_step_53 (by decide) (fun c61 => ?_) (fun c61 => ?_)
        · refine lv_aload_n hx hb dX5_step_69 rfl (lv_at hl 1 rfl) ?_
          refine f_5_4 F w (a := 4) rfl tb_468 dX5_step_70 ?_
          refine r_val (v := zI g4_4_25) (eg4_4_25) ?_
          refine lv_aload_n hx hb dX5_step_73 rfl (lv_at hl 1 rfl) ?_
          refine f_5_3 F w (a := 4) rfl tb_471 dX5_step_74 ?_
          refine r_val (v := zI z4) (eg4_3_25) ?_
          refine z_icmp_ne (tgt := 104) hx hb (by omega) (by omega) dX5_step_77 (by decide) (fun c62 => ?_) (fun c62 => ?_)
          · refine lv_aload_n hx hb dX5_step_104 rfl (lv_at hl 1 rfl) ?_
            refine lv_aload_n hx hb dX5_step_105 rfl (lv_at hl 1 rfl) ?_
            refine f_5_3 F w (a := 4) rfl tb_471 dX5_step_106 ?_
            refine r_val (v := zI z4) (eg4_3_25) ?_
            refine lv_iload_n hx hb dX5_step_109 rfl (lv_at hl 0 rfl) ?_
            refine z_icmp_ne (tgt := 150) hx hb (by omega) (by omega) dX5_step_110 (by decide) (fun c63 => ?_) (fun c63 => ?_)
            · refine lv_iconst (v := zI 0) hx hb dX5_step_150 rfl ?_
              refine u_5_5 F w (a := 4) rfl (nar_z (by omega)) (fit_z (by omega)) tb_473 dX5_step_151 (fun H locs w => ?_)
              rw [hQ]
              exact e_v F w hr hlocks ⟨(Inv.to hIL25 (a := 4) (k := 5) (x := 0) (show iv 4 5 = (0, 1) from rfl) (by omega)), (Fr.to hFL25 (by first | omega | (dsimp only; first | done | omega)))⟩ dX5_step_154
            · refine lv_aload_n hx hb dX5_step_113 rfl (lv_at hl 1 rfl) ?_
              refine f_5_0 F w (a := 4) rfl tb_469 dX5_step_114 ?_
              refine lv_iload_n hx hb dX5_step_117 rfl (lv_at hl 0 rfl) ?_
              refine lv_iconst (v := zI 1) hx hb dX5_step_118 rfl ?_
              obtain ⟨z64, bz64, x0z64, ez64⟩ := sub_ex z1 1
              refine lv_isub hx hb dX5_step_119 ?_
              refine r_val ez64 ?_
              refine k_Vi F w (As := [.int (zI z64)]) (rest := [.ref (B + 4)]) (a := 1) (kd_lt (a := 1) (show kd 1 = (8, 0, 0) from rfl) (by decide)) (sh_8 rfl _ _) rfl (q_X8_signAt (x := z64) (by omega)  hIL25) gv_X5_52 hv_X8_signAt ⟨(Nat.le_of_ble_eq_true rfl), (Nat.le_of_ble_eq_true rfl)⟩ hl.1 rfl (Nat.le_of_ble_eq_true rfl) ⟨Nat.zero_le _, Nat.zero_le _⟩ dX5_step_120 (fun r65 N66 H locs hp w => ?_)
              obtain ⟨z67, rfl, bz67, xz67, hMN66⟩ := hp
              rw [hMN66] at w
              refine k_Si F w (As := [.int (zI z67)]) (rest := [.ref (B + 4)]) (q_X5_needsBlank (x := z67) (by omega)  hIL25) gs_X5_59 hs_X5_needsBlank ⟨(Nat.le_of_ble_eq_true rfl), (Nat.le_of_ble_eq_true rfl)⟩ hl.1 rfl (Nat.le_of_ble_eq_true rfl) ⟨Nat.zero_le _, Nat.zero_le _⟩ dX5_step_123 (fun r68 N69 H locs hp w => ?_)
              obtain ⟨z70, rfl, bz70, hMN69⟩ := hp
              rw [hMN69] at w
              refine z_if_eq (tgt := 150) hx hb (by omega) dX5_step_126 (by decide) (fun c71 => ?_) (fun c71 => ?_)
              · refine lv_iconst (v := zI 0) hx hb dX5_step_150 rfl ?_
                refine u_5_5 F w (a := 4) rfl (nar_z (by omega)) (fit_z (by omega)) tb_473 dX5_step_151 (fun H locs w => ?_)
                rw [hQ]
                exact e_v F w hr hlocks ⟨(Inv.to hIL25 (a := 4) (k := 5) (x := 0) (show iv 4 5 = (0, 1) from rfl) (by omega)), (Fr.to hFL25 (by first | omega | (dsimp only; first | done | omega)))⟩ dX5_step_154
              · refine lv_aload_n hx hb dX5_step_129 rfl (lv_at hl 1 rfl) ?_
                refine f_5_0 F w (a := 4) rfl tb_469 dX5_step_130 ?_
                refine lv_aload_n hx hb dX5_step_133 rfl (lv_at hl 1 rfl) ?_
                refine f_5_3 F w (a := 4) rfl tb_471 dX5_step_134 ?_
                refine r_val (v := zI z4) (eg4_3_25) ?_
                refine k_Vi F w (As := [.int (zI z4)]) (rest := [.ref (B + 4)]) (a := 1) (kd_lt (a := 1) (show kd 1 = (8, 0, 0) from rfl) (by decide)) (sh_8 rfl _ _) rfl (q_X8_signAt (x := z4) (by omega)  hIL25) gv_X5_52 hv_X8_signAt ⟨(Nat.le_of_ble_eq_true rfl), (Nat.le_of_ble_eq_true rfl)⟩ hl.1 rfl (Nat.le_of_ble_eq_true rfl) ⟨Nat.zero_le _, Nat.zero_le _⟩ dX5_step_137 (fun r72 N73 H locs hp w => ?_)
                obtain ⟨z74, rfl, bz74, xz74, hMN73⟩ := hp
                rw [hMN73] at w
                refine k_Si F w (As := [.int (zI z74)]) (rest := [.ref (B + 4)]) (q_X5_needsBlank (x := z74) (by omega)  hIL25) gs_X5_59 hs_X5_needsBlank ⟨(Nat.le_of_ble_eq_true rfl), (Nat.le_of_ble_eq_true rfl)⟩ hl.1 rfl (Nat.le_of_ble_eq_true rfl) ⟨Nat.zero_le _, Nat.zero_le _⟩ dX5_step_140 (fun r75 N76 H locs hp w => ?_)
                obtain ⟨z77, rfl, bz77, hMN76⟩ := hp
                rw [hMN76] at w
                refine z_if_eq (tgt := 150) hx hb (by omega) dX5_step_143 (by decide) (fun c78 => ?_) (fun c78 => ?_)
                · refine lv_iconst (v := zI 0) hx hb dX5_step_150 rfl ?_
                  refine u_5_5 F w (a := 4) rfl (nar_z (by omega)) (fit_z (by omega)) tb_473 dX5_step_151 (fun H locs w => ?_)
                  rw [hQ]
                  exact e_v F w hr hlocks ⟨(Inv.to hIL25 (a := 4) (k := 5) (x := 0) (show iv 4 5 = (0, 1) from rfl) (by omega)), (Fr.to hFL25 (by first | omega | (dsimp only; first | done | omega)))⟩ dX5_step_154
                · refine lv_iconst (v := zI 1) hx hb dX5_step_146 rfl ?_
                  refine lv_goto (tgt := 151) hx hb dX5_step_147 (by decide) ?_
                  refine u_5_5 F w (a := 4) rfl (nar_z (by omega)) (fit_z (by omega)) tb_473 dX5_step_151 (fun H locs w => ?_)
                  rw [hQ]
                  exact e_v F w hr hlocks ⟨(Inv.to hIL25 (a := 4) (k := 5) (x := 1) (show iv 4 5 = (0, 1) from rfl) (by omega)), (Fr.to hFL25 (by first | omega | (dsimp only; first | done | omega)))⟩ dX5_step_154
          · refine lv_aload_n hx hb dX5_step_80 rfl (lv_at hl 1 rfl) ?_
            refine f_5_4 F w (a := 4) rfl tb_468 dX5_step_81 ?_
            refine r_val (v := zI g4_4_25) (eg4_4_25) ?_
            refine lv_aload_n hx hb dX5_step_84 rfl (lv_at hl 1 rfl) ?_
            refine f_5_0 F w (a := 4) rfl tb_469 dX5_step_85 ?_
            refine f_8_1 F w (a := 1) rfl tb_472 dX5_step_88 ?_
            refine r_val (v := zI z5) (ez5) ?_
            refine z_icmp_ge (tgt := 104) hx hb (by omega) (by omega) dX5_step_91 (by decide) (fun c79 => ?_) (fun c79 => ?_)
            · refine lv_aload_n hx hb dX5_step_104 rfl (lv_at hl 1 rfl) ?_
              refine lv_aload_n hx hb dX5_step_105 rfl (lv_at hl 1 rfl) ?_
              refine f_5_3 F w (a := 4) rfl tb_471 dX5_step_106 ?_
              refine r_val (v := zI z4) (eg4_3_25) ?_
              refine lv_iload_n hx hb dX5_step_109 rfl (lv_at hl 0 rfl) ?_
              refine z_icmp_ne (tgt := 150) hx hb (by omega) (by omega) dX5_step_110 (by decide) (fun c80 => ?_) (fun c80 => ?_)
              · refine lv_iconst (v := zI 0) hx hb dX5_step_150 rfl ?_
                refine u_5_5 F w (a := 4) rfl (nar_z (by omega)) (fit_z (by omega)) tb_473 dX5_step_151 (fun H locs w => ?_)
                rw [hQ]
                exact e_v F w hr hlocks ⟨(Inv.to hIL25 (a := 4) (k := 5) (x := 0) (show iv 4 5 = (0, 1) from rfl) (by omega)), (Fr.to hFL25 (by first | omega | (dsimp only; first | done | omega)))⟩ dX5_step_154
              · refine lv_aload_n hx hb dX5_step_113 rfl (lv_at hl 1 rfl) ?_
                refine f_5_0 F w (a := 4) rfl tb_469 dX5_step_114 ?_
                refine lv_iload_n hx hb dX5_step_117 rfl (lv_at hl 0 rfl) ?_
                refine lv_iconst (v := zI 1) hx hb dX5_step_118 rfl ?_
                obtain ⟨z81, bz81, x0z81, ez81⟩ := sub_ex z1 1
                refine lv_isub hx hb dX5_step_119 ?_
                refine r_val ez81 ?_
                refine k_Vi F w (As := [.int (zI z81)]) (rest := [.ref (B + 4)]) (a := 1) (kd_lt (a := 1) (show kd 1 = (8, 0, 0) from rfl) (by decide)) (sh_8 rfl _ _) rfl (q_X8_signAt (x := z81) (by omega)  hIL25) gv_X5_52 hv_X8_signAt ⟨(Nat.le_of_ble_eq_true rfl), (Nat.le_of_ble_eq_true rfl)⟩ hl.1 rfl (Nat.le_of_ble_eq_true rfl) ⟨Nat.zero_le _, Nat.zero_le _⟩ dX5_step_120 (fun r82 N83 H locs hp w => ?_)
                obtain ⟨z84, rfl, bz84, xz84, hMN83⟩ := hp
                rw [hMN83] at w
                refine k_Si F w (As := [.int (zI z84)]) (rest := [.ref (B + 4)]) (q_X5_needsBlank (x := z84) (by omega)  hIL25) gs_X5_59 hs_X5_needsBlank ⟨(Nat.le_of_ble_eq_true rfl), (Nat.le_of_ble_eq_true rfl)⟩ hl.1 rfl (Nat.le_of_ble_eq_true rfl) ⟨Nat.zero_le _, Nat.zero_le _⟩ dX5_step_123 (fun r85 N86 H locs hp w => ?_)
                obtain ⟨z87, rfl, bz87, hMN86⟩ := hp
                rw [hMN86] at w
                refine z_if_eq (tgt := 150) hx hb (by omega) dX5_step_126 (by decide) (fun c88 => ?_) (fun c88 => ?_)
                · refine lv_iconst (v := zI 0) hx hb dX5_step_150 rfl ?_
                  refine u_5_5 F w (a := 4) rfl (nar_z (by omega)) (fit_z (by omega)) tb_473 dX5_step_151 (fun H locs w => ?_)
                  rw [hQ]
                  exact e_v F w hr hlocks ⟨(Inv.to hIL25 (a := 4) (k := 5) (x := 0) (show iv 4 5 = (0, 1) from rfl) (by omega)), (Fr.to hFL25 (by first | omega | (dsimp only; first | done | omega)))⟩ dX5_step_154
                · refine lv_aload_n hx hb dX5_step_129 rfl (lv_at hl 1 rfl) ?_
                  refine f_5_0 F w (a := 4) rfl tb_469 dX5_step_130 ?_
                  refine lv_aload_n hx hb dX5_step_133 rfl (lv_at hl 1 rfl) ?_
                  refine f_5_3 F w (a := 4) rfl tb_471 dX5_step_134 ?_
                  refine r_val (v := zI z4) (eg4_3_25) ?_
                  refine k_Vi F w (As := [.int (zI z4)]) (rest := [.ref (B + 4)]) (a := 1) (kd_lt (a := 1) (show kd 1 = (8, 0, 0) from rfl) (by decide)) (sh_8 rfl _ _) rfl (q_X8_signAt (x := z4) (by omega)  hIL25) gv_X5_52 hv_X8_signAt ⟨(Nat.le_of_ble_eq_true rfl), (Nat.le_of_ble_eq_true rfl)⟩ hl.1 rfl (Nat.le_of_ble_eq_true rfl) ⟨Nat.zero_le _, Nat.zero_le _⟩ dX5_step_137 (fun r89 N90 H locs hp w => ?_)
                  obtain ⟨z91, rfl, bz91, xz91, hMN90⟩ := hp
                  rw [hMN90] at w
                  refine k_Si F w (As := [.int (zI z91)]) (rest := [.ref (B + 4)]) (q_X5_needsBlank (x := z91) (by omega)  hIL25) gs_X5_59 hs_X5_needsBlank ⟨(Nat.le_of_ble_eq_true rfl), (Nat.le_of_ble_eq_true rfl)⟩ hl.1 rfl (Nat.le_of_ble_eq_true rfl) ⟨Nat.zero_le _, Nat.zero_le _⟩ dX5_step_140 (fun r92 N93 H locs hp w => ?_)
                  obtain ⟨z94, rfl, bz94, hMN93⟩ := hp
                  rw [hMN93] at w
                  refine z_if_eq (tgt := 150) hx hb (by omega) dX5_step_143 (by decide) (fun c95 => ?_) (fun c95 => ?_)
                  · refine lv_iconst (v := zI 0) hx hb dX5_step_150 rfl ?_
                    refine u_5_5 F w (a := 4) rfl (nar_z (by omega)) (fit_z (by omega)) tb_473 dX5_step_151 (fun H locs w => ?_)
                    rw [hQ]
                    exact e_v F w hr hlocks ⟨(Inv.to hIL25 (a := 4) (k := 5) (x := 0) (show iv 4 5 = (0, 1) from rfl) (by omega)), (Fr.to hFL25 (by first | omega | (dsimp only; first | done | omega)))⟩ dX5_step_154
                  · refine lv_iconst (v := zI 1) hx hb dX5_step_146 rfl ?_
                    refine lv_goto (tgt := 151) hx hb dX5_step_147 (by decide) ?_
                    refine u_5_5 F w (a := 4) rfl (nar_z (by omega)) (fit_z (by omega)) tb_473 dX5_step_151 (fun H locs w => ?_)
                    rw [hQ]
                    exact e_v F w hr hlocks ⟨(Inv.to hIL25 (a := 4) (k := 5) (x := 1) (show iv 4 5 = (0, 1) from rfl) (by omega)), (Fr.to hFL25 (by first | omega | (dsimp only; first | done | omega)))⟩ dX5_step_154
            · refine lv_aload_n hx hb dX5_step_94 rfl (lv_at hl 1 rfl) ?_
              refine lv_dup hx hb dX5_step_95 rfl ?_
              refine f_5_4 F w (a := 4) rfl tb_468 dX5_step_96 ?_
              refine r_val (v := zI g4_4_25) (eg4_4_25) ?_
              refine lv_iconst (v := zI 1) hx hb dX5_step_99 rfl ?_
              refine z_iadd (z := (g4_4_25 + 1)) hx hb dX5_step_100 (by omega) ?_
              refine u_5_4 F w (a := 4) rfl tb_468 dX5_step_101 (fun H locs w => ?_)
              refine lv_aload_n hx hb dX5_step_104 rfl (lv_at hl 1 rfl) ?_
              refine lv_aload_n hx hb dX5_step_105 rfl (lv_at hl 1 rfl) ?_
              refine f_5_3 F w (a := 4) rfl tb_471 dX5_step_106 ?_
              refine r_val (v := zI z4) ((st_ne (Or.inr (by decide))).trans eg4_3_25) ?_
              refine lv_iload_n hx hb dX5_step_109 rfl (lv_at hl 0 rfl) ?_
              refine z_icmp_ne (tgt := 150) hx hb (by omega) (by omega) dX5_step_110 (by decide) (fun c96 => ?_) (fun c96 => ?_)
              · refine lv_iconst (v := zI 0) hx hb dX5_step_150 rfl ?_
                refine u_5_5 F w (a := 4) rfl (nar_z (by omega)) (fit_z (by omega)) tb_473 dX5_step_151 (fun H locs w => ?_)
                rw [hQ]
                exact e_v F w hr hlocks ⟨(Inv.to (Inv.to hIL25 (a := 4) (k := 4) (x := (g4_4_25 + 1)) (show iv 4 4 = ((-2147483648), 2147483647) from rfl) (by omega)) (a := 4) (k := 5) (x := 0) (show iv 4 5 = (0, 1) from rfl) (by omega)), (Fr.to (Fr.to hFL25 (by first | omega | (dsimp only; first | done | omega))) (by first | omega | (dsimp only; first | done | omega)))⟩ dX5_step_154
              · refine lv_aload_n hx hb dX5_step_113 rfl (lv_at hl 1 rfl) ?_
                refine f_5_0 F w (a := 4) rfl tb_469 dX5_step_114 ?_
                refine lv_iload_n hx hb dX5_step_117 rfl (lv_at hl 0 rfl) ?_
                refine lv_iconst (v := zI 1) hx hb dX5_step_118 rfl ?_
                obtain ⟨z97, bz97, x0z97, ez97⟩ := sub_ex z1 1
                refine lv_isub hx hb dX5_step_119 ?_
                refine r_val ez97 ?_
                refine k_Vi F w (As := [.int (zI z97)]) (rest := [.ref (B + 4)]) (a := 1) (kd_lt (a := 1) (show kd 1 = (8, 0, 0) from rfl) (by decide)) (sh_8 rfl _ _) rfl (q_X8_signAt (x := z97) (by omega)  (Inv.to hIL25 (a := 4) (k := 4) (x := (g4_4_25 + 1)) (show iv 4 4 = ((-2147483648), 2147483647) from rfl) (by omega))) gv_X5_52 hv_X8_signAt ⟨(Nat.le_of_ble_eq_true rfl), (Nat.le_of_ble_eq_true rfl)⟩ hl.1 rfl (Nat.le_of_ble_eq_true rfl) ⟨Nat.zero_le _, Nat.zero_le _⟩ dX5_step_120 (fun r98 N99 H locs hp w => ?_)
                obtain ⟨z100, rfl, bz100, xz100, hMN99⟩ := hp
                rw [hMN99] at w
                refine k_Si F w (As := [.int (zI z100)]) (rest := [.ref (B + 4)]) (q_X5_needsBlank (x := z100) (by omega)  (Inv.to hIL25 (a := 4) (k := 4) (x := (g4_4_25 + 1)) (show iv 4 4 = ((-2147483648), 2147483647) from rfl) (by omega))) gs_X5_59 hs_X5_needsBlank ⟨(Nat.le_of_ble_eq_true rfl), (Nat.le_of_ble_eq_true rfl)⟩ hl.1 rfl (Nat.le_of_ble_eq_true rfl) ⟨Nat.zero_le _, Nat.zero_le _⟩ dX5_step_123 (fun r101 N102 H locs hp w => ?_)
                obtain ⟨z103, rfl, bz103, hMN102⟩ := hp
                rw [hMN102] at w
                refine z_if_eq (tgt := 150) hx hb (by omega) dX5_step_126 (by decide) (fun c104 => ?_) (fun c104 => ?_)
                · refine lv_iconst (v := zI 0) hx hb dX5_step_150 rfl ?_
                  refine u_5_5 F w (a := 4) rfl (nar_z (by omega)) (fit_z (by omega)) tb_473 dX5_step_151 (fun H locs w => ?_)
                  rw [hQ]
                  exact e_v F w hr hlocks ⟨(Inv.to (Inv.to hIL25 (a := 4) (k := 4) (x := (g4_4_25 + 1)) (show iv 4 4 = ((-2147483648), 2147483647) from rfl) (by omega)) (a := 4) (k := 5) (x := 0) (show iv 4 5 = (0, 1) from rfl) (by omega)), (Fr.to (Fr.to hFL25 (by first | omega | (dsimp only; first | done | omega))) (by first | omega | (dsimp only; first | done | omega)))⟩ dX5_step_154
                · refine lv_aload_n hx hb dX5_step_129 rfl (lv_at hl 1 rfl) ?_
                  refine f_5_0 F w (a := 4) rfl tb_469 dX5_step_130 ?_
                  refine lv_aload_n hx hb dX5_step_133 rfl (lv_at hl 1 rfl) ?_
                  refine f_5_3 F w (a := 4) rfl tb_471 dX5_step_134 ?_
                  refine r_val (v := zI z4) ((st_ne (Or.inr (by decide))).trans eg4_3_25) ?_
                  refine k_Vi F w (As := [.int (zI z4)]) (rest := [.ref (B + 4)]) (a := 1) (kd_lt (a := 1) (show kd 1 = (8, 0, 0) from rfl) (by decide)) (sh_8 rfl _ _) rfl (q_X8_signAt (x := z4) (by omega)  (Inv.to hIL25 (a := 4) (k := 4) (x := (g4_4_25 + 1)) (show iv 4 4 = ((-2147483648), 2147483647) from rfl) (by omega))) gv_X5_52 hv_X8_signAt ⟨(Nat.le_of_ble_eq_true rfl), (Nat.le_of_ble_eq_true rfl)⟩ hl.1 rfl (Nat.le_of_ble_eq_true rfl) ⟨Nat.zero_le _, Nat.zero_le _⟩ dX5_step_137 (fun r105 N106 H locs hp w => ?_)
                  obtain ⟨z107, rfl, bz107, xz107, hMN106⟩ := hp
                  rw [hMN106] at w
                  refine k_Si F w (As := [.int (zI z107)]) (rest := [.ref (B + 4)]) (q_X5_needsBlank (x := z107) (by omega)  (Inv.to hIL25 (a := 4) (k := 4) (x := (g4_4_25 + 1)) (show iv 4 4 = ((-2147483648), 2147483647) from rfl) (by omega))) gs_X5_59 hs_X5_needsBlank ⟨(Nat.le_of_ble_eq_true rfl), (Nat.le_of_ble_eq_true rfl)⟩ hl.1 rfl (Nat.le_of_ble_eq_true rfl) ⟨Nat.zero_le _, Nat.zero_le _⟩ dX5_step_140 (fun r108 N109 H locs hp w => ?_)
                  obtain ⟨z110, rfl, bz110, hMN109⟩ := hp
                  rw [hMN109] at w
                  refine z_if_eq (tgt := 150) hx hb (by omega) dX5_step_143 (by decide) (fun c111 => ?_) (fun c111 => ?_)
                  · refine lv_iconst (v := zI 0) hx hb dX5_step_150 rfl ?_
                    refine u_5_5 F w (a := 4) rfl (nar_z (by omega)) (fit_z (by omega)) tb_473 dX5_step_151 (fun H locs w => ?_)
                    rw [hQ]
                    exact e_v F w hr hlocks ⟨(Inv.to (Inv.to hIL25 (a := 4) (k := 4) (x := (g4_4_25 + 1)) (show iv 4 4 = ((-2147483648), 2147483647) from rfl) (by omega)) (a := 4) (k := 5) (x := 0) (show iv 4 5 = (0, 1) from rfl) (by omega)), (Fr.to (Fr.to hFL25 (by first | omega | (dsimp only; first | done | omega))) (by first | omega | (dsimp only; first | done | omega)))⟩ dX5_step_154
                  · refine lv_iconst (v := zI 1) hx hb dX5_step_146 rfl ?_
                    refine lv_goto (tgt := 151) hx hb dX5_step_147 (by decide) ?_
                    refine u_5_5 F w (a := 4) rfl (nar_z (by omega)) (fit_z (by omega)) tb_473 dX5_step_151 (fun H locs w => ?_)
                    rw [hQ]
                    exact e_v F w hr hlocks ⟨(Inv.to (Inv.to hIL25 (a := 4) (k := 4) (x := (g4_4_25 + 1)) (show iv 4 4 = ((-2147483648), 2147483647) from rfl) (by omega)) (a := 4) (k := 5) (x := 1) (show iv 4 5 = (0, 1) from rfl) (by omega)), (Fr.to (Fr.to hFL25 (by first | omega | (dsimp only; first | done | omega))) (by first | omega | (dsimp only; first | done | omega)))⟩ dX5_step_154
        · refine lv_aload_n hx hb dX5_step_56 rfl (lv_at hl 1 rfl) ?_
          refine lv_dup hx hb dX5_step_57 rfl ?_
          refine f_5_4 F w (a := 4) rfl tb_468 dX5_step_58 ?_
          refine r_val (v := zI g4_4_25) (eg4_4_25) ?_
          refine lv_iconst (v := zI 1) hx hb dX5_step_61 rfl ?_
          refine z_iadd (z := (g4_4_25 + 1)) hx hb dX5_step_62 (by omega) ?_
          refine u_5_4 F w (a := 4) rfl tb_468 dX5_step_63 (fun H locs w => ?_)
          refine lv_goto (tgt := 25) hx hb dX5_step_66 (by decide) ?_
          exact ih25 (g4_4_25 + 1) (st NL25 4 4 (zI (g4_4_25 + 1)))  (by omega) (st_at) ((st_ne (Or.inr (by decide))).trans eg4_3_25)  (Inv.to hIL25 (a := 4) (k := 4) (x := (g4_4_25 + 1)) (show iv 4 4 = ((-2147483648), 2147483647) from rfl) (by omega)) (Fr.to hFL25 (by first | omega | (dsimp only; first | done | omega))) (by omega) _ _ _ w (lv_sub hl [0, 1] rfl)
  exact lp25 _ z4 (st (st M 4 3 (zI z4)) 4 4 (zI z4)) (by omega) (st_at) ((st_ne (Or.inr (by decide))).trans st_at) (Inv.to (Inv.to hI (a := 4) (k := 3) (x := z4) (show iv 4 3 = ((-2147483648), 2147483647) from rfl) (by omega)) (a := 4) (k := 4) (x := z4) (show iv 4 4 = ((-2147483648), 2147483647) from rfl) (by omega)) (Fr.to (Fr.to hF (by first | omega | (dsimp only; first | done | omega))) (by first | omega | (dsimp only; first | done | omega))) (Nat.lt_succ_self _) _ _ _ w (lv_sub hl [0, 1] rfl)
theorem dX5_choiceOf_0 : decode cX5_choiceOf 0 = .ok (.iconst 0, 1) := rdX5_choiceOf_0
theorem dX5_choiceOf_1 : decode cX5_choiceOf 1 = .ok (.istore_n 2, 1) := rdX5_choiceOf_1
theorem dX5_choiceOf_2 : decode cX5_choiceOf 2 = .ok (.aload_n 0, 1) := rdX5_choiceOf_2
theorem dX5_choiceOf_3 : decode cX5_choiceOf 3 = .ok (.getfield 21, 3) := rdX5_choiceOf_3
theorem dX5_choiceOf_6 : decode cX5_choiceOf 6 = .ok (.istore_n 3, 1) := rdX5_choiceOf_6
theorem dX5_choiceOf_7 : decode cX5_choiceOf 7 = .ok (.aload_n 0, 1) := rdX5_choiceOf_7
theorem dX5_choiceOf_8 : decode cX5_choiceOf 8 = .ok (.getfield 27, 3) := rdX5_choiceOf_8
theorem dX5_choiceOf_11 : decode cX5_choiceOf 11 = .ok (.ifCond .ne 7, 3) := rdX5_choiceOf_11
theorem dX5_choiceOf_18 : decode cX5_choiceOf 18 = .ok (.iconst 0, 1) := rdX5_choiceOf_18
theorem dX5_choiceOf_19 : decode cX5_choiceOf 19 = .ok (.istore 4, 2) := rdX5_choiceOf_19
theorem dX5_choiceOf_21 : decode cX5_choiceOf 21 = .ok (.iconst 0, 1) := rdX5_choiceOf_21
theorem dX5_choiceOf_22 : decode cX5_choiceOf 22 = .ok (.istore 5, 2) := rdX5_choiceOf_22
theorem dX5_choiceOf_24 : decode cX5_choiceOf 24 = .ok (.iload 5, 2) := rdX5_choiceOf_24
theorem dX5_choiceOf_26 : decode cX5_choiceOf 26 = .ok (.aload_n 1, 1) := rdX5_choiceOf_26
theorem dX5_choiceOf_27 : decode cX5_choiceOf 27 = .ok (.invokevirtual 116, 3) := rdX5_choiceOf_27
theorem tb_479 : Cond.methodLink "ToneLines$RuleReader" 116 yJ0_length_8abf5 ∈ TB := rtb_38
theorem gv_X5_116 : GoodIn TB (wsV RX5 116 RJ0 yJ0_length_8abf5 (cw yJ0_length_8abf5 cJ0_length_8abf5 1 (some .int))) := goodIn_4 tb_479 tb_422 tb_423 tb_402 gc_J0_length_8abf5
theorem dX5_choiceOf_30 : decode cX5_choiceOf 30 = .ok (.if_icmp .gt 109, 3) := rdX5_choiceOf_30
theorem dX5_choiceOf_33 : decode cX5_choiceOf 33 = .ok (.iload 5, 2) := rdX5_choiceOf_33
theorem dX5_choiceOf_35 : decode cX5_choiceOf 35 = .ok (.aload_n 1, 1) := rdX5_choiceOf_35
theorem dX5_choiceOf_36 : decode cX5_choiceOf 36 = .ok (.invokevirtual 116, 3) := rdX5_choiceOf_36
theorem dX5_choiceOf_39 : decode cX5_choiceOf 39 = .ok (.if_icmp .eq 14, 3) := rdX5_choiceOf_39
theorem dX5_choiceOf_42 : decode cX5_choiceOf 42 = .ok (.aload_n 1, 1) := rdX5_choiceOf_42
theorem dX5_choiceOf_43 : decode cX5_choiceOf 43 = .ok (.iload 5, 2) := rdX5_choiceOf_43
theorem dX5_choiceOf_45 : decode cX5_choiceOf 45 = .ok (.invokevirtual 122, 3) := rdX5_choiceOf_45
theorem tk_J0_charAt_5068e : Cond.code yJ0_charAt_5068e cJ0_charAt_5068e 2 (some .char) ∈ TB := rtk_J0_charAt_5068e
theorem gc_J0_charAt_5068e : GoodIn TB (cw yJ0_charAt_5068e cJ0_charAt_5068e 2 (some .char)) := goodIn_c2 tk_J0_charAt_5068e
theorem tb_480 : Cond.methodLink "ToneLines$RuleReader" 122 yJ0_charAt_5068e ∈ TB := rtb_41
theorem tb_481 : Cond.instanceMethod yJ0_charAt_5068e ∈ TB := rtb_42
theorem tb_482 : Cond.selects "java/lang/String" yJ0_charAt_5068e yJ0_charAt_5068e ∈ TB := rtb_43
theorem gv_X5_122 : GoodIn TB (wsV RX5 122 RJ0 yJ0_charAt_5068e (cw yJ0_charAt_5068e cJ0_charAt_5068e 2 (some .char))) := goodIn_4 tb_480 tb_481 tb_482 tb_402 gc_J0_charAt_5068e
theorem hv_J0_charAt_5068e : yJ0_charAt_5068e.cls = RJ0 ∧ yJ0_charAt_5068e.cls ≠ "java/lang/invoke/MethodHandle" ∧ yJ0_charAt_5068e.cls ≠ "java/lang/invoke/VarHandle" ∧ (parseMethodDescriptor yJ0_charAt_5068e.desc).map (fun d => d.parameters.length) = some 1 := rhv_J0_charAt_5068e
theorem dX5_choiceOf_48 : decode cX5_choiceOf 48 = .ok (.bipush 32, 2) := rdX5_choiceOf_48
theorem dX5_choiceOf_50 : decode cX5_choiceOf 50 = .ok (.if_icmp .ne 43, 3) := rdX5_choiceOf_50
theorem dX5_choiceOf_93 : decode cX5_choiceOf 93 = .ok (.iload 4, 2) := rdX5_choiceOf_93
theorem dX5_choiceOf_95 : decode cX5_choiceOf 95 = .ok (.ifCond .eq 32, 3) := rdX5_choiceOf_95
theorem dX5_choiceOf_127 : decode cX5_choiceOf 127 = .ok (.iconst 0, 1) := rdX5_choiceOf_127
theorem dX5_choiceOf_128 : decode cX5_choiceOf 128 = .ok (.istore 4, 2) := rdX5_choiceOf_128
theorem dX5_choiceOf_130 : decode cX5_choiceOf 130 = .ok (.iinc 3 1, 3) := rdX5_choiceOf_130
theorem dX5_choiceOf_133 : decode cX5_choiceOf 133 = .ok (.iinc 5 1, 3) := rdX5_choiceOf_133
theorem dX5_choiceOf_136 : decode cX5_choiceOf 136 = .ok (.goto (-112), 3) := rdX5_choiceOf_136
theorem dX5_choiceOf_53 : decode cX5_choiceOf 53 = .ok (.iload 4, 2) := rdX5_choiceOf_53
theorem dX5_choiceOf_55 : decode cX5_choiceOf 55 = .ok (.ifCond .eq 13, 3) := rdX5_choiceOf_55
theorem dX5_choiceOf_68 : decode cX5_choiceOf 68 = .ok (.iinc 2 1, 3) := rdX5_choiceOf_68
theorem dX5_choiceOf_71 : decode cX5_choiceOf 71 = .ok (.aload_n 0, 1) := rdX5_choiceOf_71
theorem dX5_choiceOf_72 : decode cX5_choiceOf 72 = .ok (.getfield 21, 3) := rdX5_choiceOf_72
theorem dX5_choiceOf_75 : decode cX5_choiceOf 75 = .ok (.istore_n 3, 1) := rdX5_choiceOf_75
theorem dX5_choiceOf_76 : decode cX5_choiceOf 76 = .ok (.aload_n 0, 1) := rdX5_choiceOf_76
theorem dX5_choiceOf_77 : decode cX5_choiceOf 77 = .ok (.getfield 27, 3) := rdX5_choiceOf_77
theorem dX5_choiceOf_80 : decode cX5_choiceOf 80 = .ok (.ifCond .ne 7, 3) := rdX5_choiceOf_80
theorem dX5_choiceOf_87 : decode cX5_choiceOf 87 = .ok (.iconst 0, 1) := rdX5_choiceOf_87
theorem dX5_choiceOf_88 : decode cX5_choiceOf 88 = .ok (.istore 4, 2) := rdX5_choiceOf_88
theorem dX5_choiceOf_90 : decode cX5_choiceOf 90 = .ok (.goto 43, 3) := rdX5_choiceOf_90
theorem dX5_choiceOf_139 : decode cX5_choiceOf 139 = .ok (.iconst (-1), 1) := rdX5_choiceOf_139
theorem dX5_choiceOf_140 : decode cX5_choiceOf 140 = .ok (.ireturn, 1) := rdX5_choiceOf_140
theorem dX5_choiceOf_14 : decode cX5_choiceOf 14 = .ok (.iconst 1, 1) := rdX5_choiceOf_14
theorem dX5_choiceOf_15 : decode cX5_choiceOf 15 = .ok (.goto 4, 3) := rdX5_choiceOf_15
theorem dX5_choiceOf_98 : decode cX5_choiceOf 98 = .ok (.iload_n 3, 1) := rdX5_choiceOf_98
theorem dX5_choiceOf_99 : decode cX5_choiceOf 99 = .ok (.aload_n 0, 1) := rdX5_choiceOf_99
theorem dX5_choiceOf_100 : decode cX5_choiceOf 100 = .ok (.getfield 24, 3) := rdX5_choiceOf_100
theorem dX5_choiceOf_103 : decode cX5_choiceOf 103 = .ok (.if_icmp .ge 24, 3) := rdX5_choiceOf_103
theorem dX5_choiceOf_106 : decode cX5_choiceOf 106 = .ok (.aload_n 0, 1) := rdX5_choiceOf_106
theorem dX5_choiceOf_107 : decode cX5_choiceOf 107 = .ok (.getfield 31, 3) := rdX5_choiceOf_107
theorem dX5_choiceOf_110 : decode cX5_choiceOf 110 = .ok (.iload_n 3, 1) := rdX5_choiceOf_110
theorem dX5_choiceOf_111 : decode cX5_choiceOf 111 = .ok (.invokevirtual 52, 3) := rdX5_choiceOf_111
theorem dX5_choiceOf_114 : decode cX5_choiceOf 114 = .ok (.aload_n 1, 1) := rdX5_choiceOf_114
theorem dX5_choiceOf_115 : decode cX5_choiceOf 115 = .ok (.iload 5, 2) := rdX5_choiceOf_115
theorem dX5_choiceOf_117 : decode cX5_choiceOf 117 = .ok (.invokevirtual 122, 3) := rdX5_choiceOf_117
theorem dX5_choiceOf_120 : decode cX5_choiceOf 120 = .ok (.if_icmp .ne 7, 3) := rdX5_choiceOf_120
theorem dX5_choiceOf_123 : decode cX5_choiceOf 123 = .ok (.iconst 1, 1) := rdX5_choiceOf_123
theorem dX5_choiceOf_124 : decode cX5_choiceOf 124 = .ok (.goto 4, 3) := rdX5_choiceOf_124
theorem dX5_choiceOf_58 : decode cX5_choiceOf 58 = .ok (.iload_n 3, 1) := rdX5_choiceOf_58
theorem dX5_choiceOf_59 : decode cX5_choiceOf 59 = .ok (.aload_n 0, 1) := rdX5_choiceOf_59
theorem dX5_choiceOf_60 : decode cX5_choiceOf 60 = .ok (.getfield 24, 3) := rdX5_choiceOf_60
theorem dX5_choiceOf_63 : decode cX5_choiceOf 63 = .ok (.if_icmp .ne 5, 3) := rdX5_choiceOf_63
theorem dX5_choiceOf_83 : decode cX5_choiceOf 83 = .ok (.iconst 1, 1) := rdX5_choiceOf_83
theorem dX5_choiceOf_84 : decode cX5_choiceOf 84 = .ok (.goto 4, 3) := rdX5_choiceOf_84
theorem dX5_choiceOf_66 : decode cX5_choiceOf 66 = .ok (.iload_n 2, 1) := rdX5_choiceOf_66
theorem dX5_choiceOf_67 : decode cX5_choiceOf 67 = .ok (.ireturn, 1) := rdX5_choiceOf_67
set_option maxHeartbeats 4000000 in
set_option maxRecDepth 4000 in
theorem q_X5_choiceOf {l : Launch} {D : va_G} {B : Nat} {cy : Nat → ClassId} {M : Mem} {i9 : Nat} (hi9 : i9 < NSL) (hI : Inv M) : Ci l D B cy yX5_choiceOf cX5_choiceOf 6 (some .int) 4 85 [.ref (B + 4), .ref (D.2 200 i9)] M (fun r M1 => ∃ z : Int, r = zI z ∧ ((-1) ≤ z ∧ z ≤ 53) ∧ M1 = M) := by
  refine s_anyQ (by decide) (Nat.le_of_ble_eq_true rfl) ?_
  intro p e s m args below meth c ls Q F hr hlocks hQ w hl
  have F : CallFix p m c cX5_choiceOf 6 s args TB RX5 := F
  have hx := F.1
  have hb := F.2.1
  have hl : lv_has ls 6 [(0, .ref (B + 4)), (1, .ref (D.2 200 i9))] := hl
  have hsn_i9 := sl_len hi9
  refine lv_iconst (v := zI 0) hx hb dX5_choiceOf_0 rfl ?_
  refine lv_istore_n (lv' := [(2, .int (zI 0)), (0, .ref (B + 4)), (1, .ref (D.2 200 i9))]) hx hb dX5_choiceOf_1 rfl hl (by decide) rfl (fun ls hl => ?_)
  refine lv_aload_n hx hb dX5_choiceOf_2 rfl (lv_at hl 1 rfl) ?_
  refine f_5_3 F w (a := 4) rfl tb_471 dX5_choiceOf_3 ?_
  obtain ⟨z1, bz1, ez1⟩ := Inv.ld (k := 3) hI (show iv 4 3 = ((-2147483648), 2147483647) from rfl) (show 4 < 146 by decide)
  refine r_val ez1 ?_
  refine lv_istore_n (lv' := [(3, .int (zI z1)), (2, .int (zI 0)), (0, .ref (B + 4)), (1, .ref (D.2 200 i9))]) hx hb dX5_choiceOf_6 rfl hl (by decide) rfl (fun ls hl => ?_)
  refine lv_aload_n hx hb dX5_choiceOf_7 rfl (lv_at hl 2 rfl) ?_
  refine f_5_5 F w (a := 4) rfl tb_473 dX5_choiceOf_8 ?_
  obtain ⟨z2, bz2, ez2⟩ := Inv.ld (k := 5) hI (show iv 4 5 = (0, 1) from rfl) (show 4 < 146 by decide)
  refine r_val ez2 ?_
  refine z_if_ne (tgt := 18) hx hb (by omega) dX5_choiceOf_11 (by decide) (fun c3 => ?_) (fun c3 => ?_)
  · refine lv_iconst (v := zI 0) hx hb dX5_choiceOf_18 rfl ?_
    refine lv_istore (lv' := [(4, .int (zI 0)), (3, .int (zI z1)), (2, .int (zI 0)), (0, .ref (B + 4)), (1, .ref (D.2 200 i9))]) hx hb dX5_choiceOf_19 hl (by decide) rfl (fun ls hl => ?_)
    refine lv_iconst (v := zI 0) hx hb dX5_choiceOf_21 rfl ?_
    refine lv_istore (lv' := [(5, .int (zI 0)), (4, .int (zI 0)), (3, .int (zI z1)), (2, .int (zI 0)), (0, .ref (B + 4)), (1, .ref (D.2 200 i9))]) hx hb dX5_choiceOf_22 hl (by decide) rfl (fun ls hl => ?_)
    have lp24 : ∀ (f : Nat) (v5_24 : Int) (v3_24 : Int) (v2_24 : Int), (0 ≤ v5_24 ∧ v5_24 ≤ 63) → ((-2147483648) ≤ v3_24 ∧ v3_24 ≤ 2147483647) → ((-2147483648) ≤ v2_24 ∧ v2_24 ≤ 2147483647) → (0 ≤ v2_24 ∧ v2_24 ≤ v5_24) → (v5_24 ≤ slN i9 + 1) → (Int.toNat (53 - v5_24) < f) → ∀ (H : Heap) (locs : List Loc) (ls : Array Slot), Wd D B cy s s.heap M H locs → lv_has ls 6 [(5, .int (zI v5_24)), (4, .int (zI 0)), (3, .int (zI v3_24)), (2, .int (zI v2_24)), (0, .ref (B + 4)), (1, .ref (D.2 200 i9))] → W p l e (rmm 4 85) s m args below meth c H locs 0 0 Q (F0 m 24 ls []) := by
      intro f
      induction f with
      | zero => intros; omega
      | succ f ih24 =>
        intro v5_24 v3_24 v2_24  iv5_24 iv3_24 iv2_24 y24_0 y24_1 hf24 H locs ls w hl
        refine lv_iload hx hb dX5_choiceOf_24 (lv_at hl 0 rfl) ?_
        refine lv_aload_n hx hb dX5_choiceOf_26 rfl (lv_at hl 5 rfl) ?_
        refine k_Qi F w (As := []) (rest := [.int (zI v5_24)]) (i := i9) hi9 (q_J0_length_8abf5 (i9 := i9) hi9  hI) gv_X5_116 hv_J0_length_8abf5 ⟨(Nat.le_of_ble_eq_true rfl), (Nat.le_of_ble_eq_true rfl)⟩ hl.1 rfl (Nat.le_of_ble_eq_true rfl) ⟨Nat.zero_le _, Nat.zero_le _⟩ dX5_choiceOf_27 (fun r4 N5 H locs hp w => ?_)
        obtain ⟨z6, rfl, bz6, xz6, hMN5⟩ := hp
        rw [hMN5] at w
        refine z_icmp_gt (tgt := 139) hx hb (by omega) (by omega) dX5_choiceOf_30 (by decide) (fun c7 => ?_) (fun c7 => ?_)
        · refine lv_iconst (v := zI (-1)) hx hb dX5_choiceOf_139 rfl ?_
          rw [hQ]
          exact e_i F w hr hlocks ⟨_, rfl, (by omega), rfl⟩ dX5_choiceOf_140
        · refine lv_iload hx hb dX5_choiceOf_33 (lv_at hl 0 rfl) ?_
          refine lv_aload_n hx hb dX5_choiceOf_35 rfl (lv_at hl 5 rfl) ?_
          refine k_Qi F w (As := []) (rest := [.int (zI v5_24)]) (i := i9) hi9 (q_J0_length_8abf5 (i9 := i9) hi9  hI) gv_X5_116 hv_J0_length_8abf5 ⟨(Nat.le_of_ble_eq_true rfl), (Nat.le_of_ble_eq_true rfl)⟩ hl.1 rfl (Nat.le_of_ble_eq_true rfl) ⟨Nat.zero_le _, Nat.zero_le _⟩ dX5_choiceOf_36 (fun r8 N9 H locs hp w => ?_)
          obtain ⟨z10, rfl, bz10, xz10, hMN9⟩ := hp
          rw [hMN9] at w
          refine z_icmp_eq (tgt := 53) hx hb (by omega) (by omega) dX5_choiceOf_39 (by decide) (fun c11 => ?_) (fun c11 => ?_)
          · refine lv_iload hx hb dX5_choiceOf_53 (lv_at hl 1 rfl) ?_
            refine z_if_eq (tgt := 68) hx hb (by omega) dX5_choiceOf_55 (by decide) (fun c12 => ?_) (fun c12 => False.elim (by omega))
            obtain ⟨z13, bz13, x0z13, ez13⟩ := add_ex v2_24 1
            refine lv_iinc (v := zI z13) (lv' := [(2, .int (zI z13)), (5, .int (zI v5_24)), (4, .int (zI 0)), (3, .int (zI v3_24)), (0, .ref (B + 4)), (1, .ref (D.2 200 i9))]) hx hb dX5_choiceOf_68 hl (k := 3) rfl (by first | exact ez13 | (rw [← ez13]; rfl)) (by decide) rfl (fun ls hl => ?_)
            refine lv_aload_n hx hb dX5_choiceOf_71 rfl (lv_at hl 4 rfl) ?_
            refine f_5_3 F w (a := 4) rfl tb_471 dX5_choiceOf_72 ?_
            refine r_val (v := zI z1) (ez1) ?_
            refine lv_istore_n (lv' := [(3, .int (zI z1)), (2, .int (zI z13)), (5, .int (zI v5_24)), (4, .int (zI 0)), (0, .ref (B + 4)), (1, .ref (D.2 200 i9))]) hx hb dX5_choiceOf_75 rfl hl (by decide) rfl (fun ls hl => ?_)
            refine lv_aload_n hx hb dX5_choiceOf_76 rfl (lv_at hl 4 rfl) ?_
            refine f_5_5 F w (a := 4) rfl tb_473 dX5_choiceOf_77 ?_
            refine r_val (v := zI z2) (ez2) ?_
            refine z_if_ne (tgt := 87) hx hb (by omega) dX5_choiceOf_80 (by decide) (fun c14 => ?_) (fun c14 => False.elim (by omega))
            refine lv_iconst (v := zI 0) hx hb dX5_choiceOf_87 rfl ?_
            refine lv_istore (lv' := [(4, .int (zI 0)), (3, .int (zI z1)), (2, .int (zI z13)), (5, .int (zI v5_24)), (0, .ref (B + 4)), (1, .ref (D.2 200 i9))]) hx hb dX5_choiceOf_88 hl (by decide) rfl (fun ls hl => ?_)
            refine lv_goto (tgt := 133) hx hb dX5_choiceOf_90 (by decide) ?_
            refine z_iinc (v := (v5_24 + 1)) (lv' := [(5, .int (zI (v5_24 + 1))), (4, .int (zI 0)), (3, .int (zI z1)), (2, .int (zI z13)), (0, .ref (B + 4)), (1, .ref (D.2 200 i9))]) hx hb dX5_choiceOf_133 hl (k := 3) rfl (by omega) (by decide) rfl (fun ls hl => ?_)
            refine lv_goto (tgt := 24) hx hb dX5_choiceOf_136 (by decide) ?_
            exact ih24 (v5_24 + 1) z1 z13 (by omega) (by omega) (by omega)   (by omega) (by omega)  (by omega) _ _ _ w (lv_sub hl [0, 1, 2, 3, 4, 5] rfl)
          · refine lv_aload_n hx hb dX5_choiceOf_42 rfl (lv_at hl 5 rfl) ?_
            refine lv_iload hx hb dX5_choiceOf_43 (lv_at hl 0 rfl) ?_
            refine k_Qi F w (As := [.int (zI v5_24)]) (rest := []) (i := i9) hi9 (q_J0_charAt_5068e (i9 := i9) hi9 (x := v5_24) (by omega) (by omega) hI) gv_X5_122 hv_J0_charAt_5068e ⟨(Nat.le_of_ble_eq_true rfl), (Nat.le_of_ble_eq_true rfl)⟩ hl.1 rfl (Nat.le_of_ble_eq_true rfl) ⟨Nat.zero_le _, Nat.zero_le _⟩ dX5_choiceOf_45 (fun r15 N16 H locs hp w => ?_)
            obtain ⟨z17, rfl, bz17, hMN16⟩ := hp
            rw [hMN16] at w
            refine lv_bipush (v := zI 32) hx hb dX5_choiceOf_48 (by decide) ?_
            refine z_icmp_ne (tgt := 93) hx hb (by omega) (by omega) dX5_choiceOf_50 (by decide) (fun c18 => ?_) (fun c18 => ?_)
            · refine lv_iload hx hb dX5_choiceOf_93 (lv_at hl 1 rfl) ?_
              refine z_if_eq (tgt := 127) hx hb (by omega) dX5_choiceOf_95 (by decide) (fun c19 => ?_) (fun c19 => False.elim (by omega))
              refine lv_iconst (v := zI 0) hx hb dX5_choiceOf_127 rfl ?_
              refine lv_istore (lv' := [(4, .int (zI 0)), (5, .int (zI v5_24)), (3, .int (zI v3_24)), (2, .int (zI v2_24)), (0, .ref (B + 4)), (1, .ref (D.2 200 i9))]) hx hb dX5_choiceOf_128 hl (by decide) rfl (fun ls hl => ?_)
              obtain ⟨z20, bz20, x0z20, ez20⟩ := add_ex v3_24 1
              refine lv_iinc (v := zI z20) (lv' := [(3, .int (zI z20)), (4, .int (zI 0)), (5, .int (zI v5_24)), (2, .int (zI v2_24)), (0, .ref (B + 4)), (1, .ref (D.2 200 i9))]) hx hb dX5_choiceOf_130 hl (k := 2) rfl (by first | exact ez20 | (rw [← ez20]; rfl)) (by decide) rfl (fun ls hl => ?_)
              refine z_iinc (v := (v5_24 + 1)) (lv' := [(5, .int (zI (v5_24 + 1))), (3, .int (zI z20)), (4, .int (zI 0)), (2, .int (zI v2_24)), (0, .ref (B + 4)), (1, .ref (D.2 200 i9))]) hx hb dX5_choiceOf_133 hl (k := 2) rfl (by omega) (by decide) rfl (fun ls hl => ?_)
              refine lv_goto (tgt := 24) hx hb dX5_choiceOf_136 (by decide) ?_
              exact ih24 (v5_24 + 1) z20 v2_24 (by omega) (by omega) (by omega)   (by omega) (by omega)  (by omega) _ _ _ w (lv_sub hl [0, 2, 1, 3, 4, 5] rfl)
            · refine lv_iload hx hb dX5_choiceOf_53 (lv_at hl 1 rfl) ?_
              refine z_if_eq (tgt := 68) hx hb (by omega) dX5_choiceOf_55 (by decide) (fun c21 => ?_) (fun c21 => False.elim (by omega))
              obtain ⟨z22, bz22, x0z22, ez22⟩ := add_ex v2_24 1
              refine lv_iinc (v := zI z22) (lv' := [(2, .int (zI z22)), (5, .int (zI v5_24)), (4, .int (zI 0)), (3, .int (zI v3_24)), (0, .ref (B + 4)), (1, .ref (D.2 200 i9))]) hx hb dX5_choiceOf_68 hl (k := 3) rfl (by first | exact ez22 | (rw [← ez22]; rfl)) (by decide) rfl (fun ls hl => ?_)
              refine lv_aload_n hx hb dX5_choiceOf_71 rfl (lv_at hl 4 rfl) ?_
              refine f_5_3 F w (a := 4) rfl tb_471 dX5_choiceOf_72 ?_
              refine r_val (v := zI z1) (ez1) ?_
              refine lv_istore_n (lv' := [(3, .int (zI z1)), (2, .int (zI z22)), (5, .int (zI v5_24)), (4, .int (zI 0)), (0, .ref (B + 4)), (1, .ref (D.2 200 i9))]) hx hb dX5_choiceOf_75 rfl hl (by decide) rfl (fun ls hl => ?_)
              refine lv_aload_n hx hb dX5_choiceOf_76 rfl (lv_at hl 4 rfl) ?_
              refine f_5_5 F w (a := 4) rfl tb_473 dX5_choiceOf_77 ?_
              refine r_val (v := zI z2) (ez2) ?_
              refine z_if_ne (tgt := 87) hx hb (by omega) dX5_choiceOf_80 (by decide) (fun c23 => ?_) (fun c23 => False.elim (by omega))
              refine lv_iconst (v := zI 0) hx hb dX5_choiceOf_87 rfl ?_
              refine lv_istore (lv' := [(4, .int (zI 0)), (3, .int (zI z1)), (2, .int (zI z22)), (5, .int (zI v5_24)), (0, .ref (B + 4)), (1, .ref (D.2 200 i9))]) hx hb dX5_choiceOf_88 hl (by decide) rfl (fun ls hl => ?_)
              refine lv_goto (tgt := 133) hx hb dX5_choiceOf_90 (by decide) ?_
              refine z_iinc (v := (v5_24 + 1)) (lv' := [(5, .int (zI (v5_24 + 1))), (4, .int (zI 0)), (3, .int (zI z1)), (2, .int (zI z22)), (0, .ref (B + 4)), (1, .ref (D.2 200 i9))]) hx hb dX5_choiceOf_133 hl (k := 3) rfl (by omega) (by decide) rfl (fun ls hl => ?_)
              refine lv_goto (tgt := 24) hx hb dX5_choiceOf_136 (by decide) ?_
              exact ih24 (v5_24 + 1) z1 z22 (by omega) (by omega) (by omega)   (by omega) (by omega)  (by omega) _ _ _ w (lv_sub hl [0, 1, 2, 3, 4, 5] rfl)
    exact lp24 _ 0 z1 0 (by omega) (by omega) (by omega) (by omega) (by omega) (Nat.lt_succ_self _) _ _ _ w (lv_sub hl [0, 1, 2, 3, 4, 5] rfl)
  · refine lv_iconst (v := zI 1) hx hb dX5_choiceOf_14 rfl ?_
    refine lv_goto (tgt := 19) hx hb dX5_choiceOf_15 (by decide) ?_
    refine lv_istore (lv' := [(4, .int (zI 1)), (3, .int (zI z1)), (2, .int (zI 0)), (0, .ref (B + 4)), (1, .ref (D.2 200 i9))]) hx hb dX5_choiceOf_19 hl (by decide) rfl (fun ls hl => ?_)
    refine lv_iconst (v := zI 0) hx hb dX5_choiceOf_21 rfl ?_
    refine lv_istore (lv' := [(5, .int (zI 0)), (4, .int (zI 1)), (3, .int (zI z1)), (2, .int (zI 0)), (0, .ref (B + 4)), (1, .ref (D.2 200 i9))]) hx hb dX5_choiceOf_22 hl (by decide) rfl (fun ls hl => ?_)
    have lp24 : ∀ (f : Nat) (v5_24 : Int) (v4_24 : Int) (v3_24 : Int) (v2_24 : Int), (0 ≤ v5_24 ∧ v5_24 ≤ 63) → (0 ≤ v4_24 ∧ v4_24 ≤ 1) → ((-2147483648) ≤ v3_24 ∧ v3_24 ≤ 2147483647) → ((-2147483648) ≤ v2_24 ∧ v2_24 ≤ 2147483647) → (0 ≤ v2_24 ∧ v2_24 ≤ v5_24) → (v5_24 ≤ slN i9 + 1) → (Int.toNat (53 - v5_24) < f) → ∀ (H : Heap) (locs : List Loc) (ls : Array Slot), Wd D B cy s s.heap M H locs → lv_has ls 6 [(5, .int (zI v5_24)), (4, .int (zI v4_24)), (3, .int (zI v3_24)), (2, .int (zI v2_24)), (0, .ref (B + 4)), (1, .ref (D.2 200 i9))] → W p l e (rmm 4 85) s m args below meth c H locs 0 0 Q (F0 m 24 ls []) := by
      intro f
      induction f with
      | zero => intros; omega
      | succ f ih24 =>
        intro v5_24 v4_24 v3_24 v2_24  iv5_24 iv4_24 iv3_24 iv2_24 y24_0 y24_1 hf24 H locs ls w hl
        refine lv_iload hx hb dX5_choiceOf_24 (lv_at hl 0 rfl) ?_
        refine lv_aload_n hx hb dX5_choiceOf_26 rfl (lv_at hl 5 rfl) ?_
        refine k_Qi F w (As := []) (rest := [.int (zI v5_24)]) (i := i9) hi9 (q_J0_length_8abf5 (i9 := i9) hi9  hI) gv_X5_116 hv_J0_length_8abf5 ⟨(Nat.le_of_ble_eq_true rfl), (Nat.le_of_ble_eq_true rfl)⟩ hl.1 rfl (Nat.le_of_ble_eq_true rfl) ⟨Nat.zero_le _, Nat.zero_le _⟩ dX5_choiceOf_27 (fun r24 N25 H locs hp w => ?_)
        obtain ⟨z26, rfl, bz26, xz26, hMN25⟩ := hp
        rw [hMN25] at w
        refine z_icmp_gt (tgt := 139) hx hb (by omega) (by omega) dX5_choiceOf_30 (by decide) (fun c27 => ?_) (fun c27 => ?_)
        · refine lv_iconst (v := zI (-1)) hx hb dX5_choiceOf_139 rfl ?_
          rw [hQ]
          exact e_i F w hr hlocks ⟨_, rfl, (by omega), rfl⟩ dX5_choiceOf_140
        · refine lv_iload hx hb dX5_choiceOf_33 (lv_at hl 0 rfl) ?_
          refine lv_aload_n hx hb dX5_choiceOf_35 rfl (lv_at hl 5 rfl) ?_
          refine k_Qi F w (As := []) (rest := [.int (zI v5_24)]) (i := i9) hi9 (q_J0_length_8abf5 (i9 := i9) hi9  hI) gv_X5_116 hv_J0_length_8abf5 ⟨(Nat.le_of_ble_eq_true rfl), (Nat.le_of_ble_eq_true rfl)⟩ hl.1 rfl (Nat.le_of_ble_eq_true rfl) ⟨Nat.zero_le _, Nat.zero_le _⟩ dX5_choiceOf_36 (fun r28 N29 H locs hp w => ?_)
          obtain ⟨z30, rfl, bz30, xz30, hMN29⟩ := hp
          rw [hMN29] at w
          refine z_icmp_eq (tgt := 53) hx hb (by omega) (by omega) dX5_choiceOf_39 (by decide) (fun c31 => ?_) (fun c31 => ?_)
          · refine lv_iload hx hb dX5_choiceOf_53 (lv_at hl 1 rfl) ?_
            refine z_if_eq (tgt := 68) hx hb (by omega) dX5_choiceOf_55 (by decide) (fun c32 => ?_) (fun c32 => ?_)
            · obtain ⟨z33, bz33, x0z33, ez33⟩ := add_ex v2_24 1
              refine lv_iinc (v := zI z33) (lv' := [(2, .int (zI z33)), (5, .int (zI v5_24)), (4, .int (zI v4_24)), (3, .int (zI v3_24)), (0, .ref (B + 4)), (1, .ref (D.2 200 i9))]) hx hb dX5_choiceOf_68 hl (k := 3) rfl (by first | exact ez33 | (rw [← ez33]; rfl)) (by decide) rfl (fun ls hl => ?_)
              refine lv_aload_n hx hb dX5_choiceOf_71 rfl (lv_at hl 4 rfl) ?_
              refine f_5_3 F w (a := 4) rfl tb_471 dX5_choiceOf_72 ?_
              refine r_val (v := zI z1) (ez1) ?_
              refine lv_istore_n (lv' := [(3, .int (zI z1)), (2, .int (zI z33)), (5, .int (zI v5_24)), (4, .int (zI v4_24)), (0, .ref (B + 4)), (1, .ref (D.2 200 i9))]) hx hb dX5_choiceOf_75 rfl hl (by decide) rfl (fun ls hl => ?_)
              refine lv_aload_n hx hb dX5_choiceOf_76 rfl (lv_at hl 4 rfl) ?_
              refine f_5_5 F w (a := 4) rfl tb_473 dX5_choiceOf_77 ?_
              refine r_val (v := zI z2) (ez2) ?_
              refine z_if_ne (tgt := 87) hx hb (by omega) dX5_choiceOf_80 (by decide) (fun c34 => False.elim (by omega)) (fun c34 => ?_)
              refine lv_iconst (v := zI 1) hx hb dX5_choiceOf_83 rfl ?_
              refine lv_goto (tgt := 88) hx hb dX5_choiceOf_84 (by decide) ?_
              refine lv_istore (lv' := [(4, .int (zI 1)), (3, .int (zI z1)), (2, .int (zI z33)), (5, .int (zI v5_24)), (0, .ref (B + 4)), (1, .ref (D.2 200 i9))]) hx hb dX5_choiceOf_88 hl (by decide) rfl (fun ls hl => ?_)
              refine lv_goto (tgt := 133) hx hb dX5_choiceOf_90 (by decide) ?_
              refine z_iinc (v := (v5_24 + 1)) (lv' := [(5, .int (zI (v5_24 + 1))), (4, .int (zI 1)), (3, .int (zI z1)), (2, .int (zI z33)), (0, .ref (B + 4)), (1, .ref (D.2 200 i9))]) hx hb dX5_choiceOf_133 hl (k := 3) rfl (by omega) (by decide) rfl (fun ls hl => ?_)
              refine lv_goto (tgt := 24) hx hb dX5_choiceOf_136 (by decide) ?_
              exact ih24 (v5_24 + 1) 1 z1 z33 (by omega) (by omega) (by omega) (by omega)   (by omega) (by omega)  (by omega) _ _ _ w (lv_sub hl [0, 1, 2, 3, 4, 5] rfl)
            · refine lv_iload_n hx hb dX5_choiceOf_58 rfl (lv_at hl 2 rfl) ?_
              refine lv_aload_n hx hb dX5_choiceOf_59 rfl (lv_at hl 4 rfl) ?_
              refine f_5_4 F w (a := 4) rfl tb_468 dX5_choiceOf_60 ?_
              obtain ⟨z35, bz35, ez35⟩ := Inv.ld (k := 4) hI (show iv 4 4 = ((-2147483648), 2147483647) from rfl) (show 4 < 146 by decide)
              refine r_val ez35 ?_
              refine z_icmp_ne (tgt := 68) hx hb (by omega) (by omega) dX5_choiceOf_63 (by decide) (fun c36 => ?_) (fun c36 => ?_)
              · obtain ⟨z37, bz37, x0z37, ez37⟩ := add_ex v2_24 1
                refine lv_iinc (v := zI z37) (lv' := [(2, .int (zI z37)), (5, .int (zI v5_24)), (4, .int (zI v4_24)), (3, .int (zI v3_24)), (0, .ref (B + 4)), (1, .ref (D.2 200 i9))]) hx hb dX5_choiceOf_68 hl (k := 3) rfl (by first | exact ez37 | (rw [← ez37]; rfl)) (by decide) rfl (fun ls hl => ?_)
                refine lv_aload_n hx hb dX5_choiceOf_71 rfl (lv_at hl 4 rfl) ?_
                refine f_5_3 F w (a := 4) rfl tb_471 dX5_choiceOf_72 ?_
                refine r_val (v := zI z1) (ez1) ?_
                refine lv_istore_n (lv' := [(3, .int (zI z1)), (2, .int (zI z37)), (5, .int (zI v5_24)), (4, .int (zI v4_24)), (0, .ref (B + 4)), (1, .ref (D.2 200 i9))]) hx hb dX5_choiceOf_75 rfl hl (by decide) rfl (fun ls hl => ?_)
                refine lv_aload_n hx hb dX5_choiceOf_76 rfl (lv_at hl 4 rfl) ?_
                refine f_5_5 F w (a := 4) rfl tb_473 dX5_choiceOf_77 ?_
                refine r_val (v := zI z2) (ez2) ?_
                refine z_if_ne (tgt := 87) hx hb (by omega) dX5_choiceOf_80 (by decide) (fun c38 => False.elim (by omega)) (fun c38 => ?_)
                refine lv_iconst (v := zI 1) hx hb dX5_choiceOf_83 rfl ?_
                refine lv_goto (tgt := 88) hx hb dX5_choiceOf_84 (by decide) ?_
                refine lv_istore (lv' := [(4, .int (zI 1)), (3, .int (zI z1)), (2, .int (zI z37)), (5, .int (zI v5_24)), (0, .ref (B + 4)), (1, .ref (D.2 200 i9))]) hx hb dX5_choiceOf_88 hl (by decide) rfl (fun ls hl => ?_)
                refine lv_goto (tgt := 133) hx hb dX5_choiceOf_90 (by decide) ?_
                refine z_iinc (v := (v5_24 + 1)) (lv' := [(5, .int (zI (v5_24 + 1))), (4, .int (zI 1)), (3, .int (zI z1)), (2, .int (zI z37)), (0, .ref (B + 4)), (1, .ref (D.2 200 i9))]) hx hb dX5_choiceOf_133 hl (k := 3) rfl (by omega) (by decide) rfl (fun ls hl => ?_)
                refine lv_goto (tgt := 24) hx hb dX5_choiceOf_136 (by decide) ?_
                exact ih24 (v5_24 + 1) 1 z1 z37 (by omega) (by omega) (by omega) (by omega)   (by omega) (by omega)  (by omega) _ _ _ w (lv_sub hl [0, 1, 2, 3, 4, 5] rfl)
              · refine lv_iload_n hx hb dX5_choiceOf_66 rfl (lv_at hl 3 rfl) ?_
                rw [hQ]
                exact e_i F w hr hlocks ⟨_, rfl, (by omega), rfl⟩ dX5_choiceOf_67
          · refine lv_aload_n hx hb dX5_choiceOf_42 rfl (lv_at hl 5 rfl) ?_
            refine lv_iload hx hb dX5_choiceOf_43 (lv_at hl 0 rfl) ?_
            refine k_Qi F w (As := [.int (zI v5_24)]) (rest := []) (i := i9) hi9 (q_J0_charAt_5068e (i9 := i9) hi9 (x := v5_24) (by omega) (by omega) hI) gv_X5_122 hv_J0_charAt_5068e ⟨(Nat.le_of_ble_eq_true rfl), (Nat.le_of_ble_eq_true rfl)⟩ hl.1 rfl (Nat.le_of_ble_eq_true rfl) ⟨Nat.zero_le _, Nat.zero_le _⟩ dX5_choiceOf_45 (fun r39 N40 H locs hp w => ?_)
            obtain ⟨z41, rfl, bz41, hMN40⟩ := hp
            rw [hMN40] at w
            refine lv_bipush (v := zI 32) hx hb dX5_choiceOf_48 (by decide) ?_
            refine z_icmp_ne (tgt := 93) hx hb (by omega) (by omega) dX5_choiceOf_50 (by decide) (fun c42 => ?_) (fun c42 => ?_)
            · refine lv_iload hx hb dX5_choiceOf_93 (lv_at hl 1 rfl) ?_
              refine z_if_eq (tgt := 127) hx hb (by omega) dX5_choiceOf_95 (by decide) (fun c43 => ?_) (fun c43 => ?_)
              · refine lv_iconst (v := zI 0) hx hb dX5_choiceOf_127 rfl ?_
                refine lv_istore (lv' := [(4, .int (zI 0)), (5, .int (zI v5_24)), (3, .int (zI v3_24)), (2, .int (zI v2_24)), (0, .ref (B + 4)), (1, .ref (D.2 200 i9))]) hx hb dX5_choiceOf_128 hl (by decide) rfl (fun ls hl => ?_)
                obtain ⟨z44, bz44, x0z44, ez44⟩ := add_ex v3_24 1
                refine lv_iinc (v := zI z44) (lv' := [(3, .int (zI z44)), (4, .int (zI 0)), (5, .int (zI v5_24)), (2, .int (zI v2_24)), (0, .ref (B + 4)), (1, .ref (D.2 200 i9))]) hx hb dX5_choiceOf_130 hl (k := 2) rfl (by first | exact ez44 | (rw [← ez44]; rfl)) (by decide) rfl (fun ls hl => ?_)
                refine z_iinc (v := (v5_24 + 1)) (lv' := [(5, .int (zI (v5_24 + 1))), (3, .int (zI z44)), (4, .int (zI 0)), (2, .int (zI v2_24)), (0, .ref (B + 4)), (1, .ref (D.2 200 i9))]) hx hb dX5_choiceOf_133 hl (k := 2) rfl (by omega) (by decide) rfl (fun ls hl => ?_)
                refine lv_goto (tgt := 24) hx hb dX5_choiceOf_136 (by decide) ?_
                exact ih24 (v5_24 + 1) 0 z44 v2_24 (by omega) (by omega) (by omega) (by omega)   (by omega) (by omega)  (by omega) _ _ _ w (lv_sub hl [0, 2, 1, 3, 4, 5] rfl)
              · refine lv_iload_n hx hb dX5_choiceOf_98 rfl (lv_at hl 2 rfl) ?_
                refine lv_aload_n hx hb dX5_choiceOf_99 rfl (lv_at hl 4 rfl) ?_
                refine f_5_4 F w (a := 4) rfl tb_468 dX5_choiceOf_100 ?_
                obtain ⟨z45, bz45, ez45⟩ := Inv.ld (k := 4) hI (show iv 4 4 = ((-2147483648), 2147483647) from rfl) (show 4 < 146 by decide)
                refine r_val ez45 ?_
                refine z_icmp_ge (tgt := 127) hx hb (by omega) (by omega) dX5_choiceOf_103 (by decide) (fun c46 => ?_) (fun c46 => ?_)
                · refine lv_iconst (v := zI 0) hx hb dX5_choiceOf_127 rfl ?_
                  refine lv_istore (lv' := [(4, .int (zI 0)), (5, .int (zI v5_24)), (3, .int (zI v3_24)), (2, .int (zI v2_24)), (0, .ref (B + 4)), (1, .ref (D.2 200 i9))]) hx hb dX5_choiceOf_128 hl (by decide) rfl (fun ls hl => ?_)
                  obtain ⟨z47, bz47, x0z47, ez47⟩ := add_ex v3_24 1
                  refine lv_iinc (v := zI z47) (lv' := [(3, .int (zI z47)), (4, .int (zI 0)), (5, .int (zI v5_24)), (2, .int (zI v2_24)), (0, .ref (B + 4)), (1, .ref (D.2 200 i9))]) hx hb dX5_choiceOf_130 hl (k := 2) rfl (by first | exact ez47 | (rw [← ez47]; rfl)) (by decide) rfl (fun ls hl => ?_)
                  refine z_iinc (v := (v5_24 + 1)) (lv' := [(5, .int (zI (v5_24 + 1))), (3, .int (zI z47)), (4, .int (zI 0)), (2, .int (zI v2_24)), (0, .ref (B + 4)), (1, .ref (D.2 200 i9))]) hx hb dX5_choiceOf_133 hl (k := 2) rfl (by omega) (by decide) rfl (fun ls hl => ?_)
                  refine lv_goto (tgt := 24) hx hb dX5_choiceOf_136 (by decide) ?_
                  exact ih24 (v5_24 + 1) 0 z47 v2_24 (by omega) (by omega) (by omega) (by omega)   (by omega) (by omega)  (by omega) _ _ _ w (lv_sub hl [0, 2, 1, 3, 4, 5] rfl)
                · refine lv_aload_n hx hb dX5_choiceOf_106 rfl (lv_at hl 4 rfl) ?_
                  refine f_5_0 F w (a := 4) rfl tb_469 dX5_choiceOf_107 ?_
                  refine lv_iload_n hx hb dX5_choiceOf_110 rfl (lv_at hl 2 rfl) ?_
                  refine k_Vi F w (As := [.int (zI v3_24)]) (rest := []) (a := 1) (kd_lt (a := 1) (show kd 1 = (8, 0, 0) from rfl) (by decide)) (sh_8 rfl _ _) rfl (q_X8_signAt (x := v3_24) (by omega)  hI) gv_X5_52 hv_X8_signAt ⟨(Nat.le_of_ble_eq_true rfl), (Nat.le_of_ble_eq_true rfl)⟩ hl.1 rfl (Nat.le_of_ble_eq_true rfl) ⟨Nat.zero_le _, Nat.zero_le _⟩ dX5_choiceOf_111 (fun r48 N49 H locs hp w => ?_)
                  obtain ⟨z50, rfl, bz50, xz50, hMN49⟩ := hp
                  rw [hMN49] at w
                  refine lv_aload_n hx hb dX5_choiceOf_114 rfl (lv_at hl 5 rfl) ?_
                  refine lv_iload hx hb dX5_choiceOf_115 (lv_at hl 0 rfl) ?_
                  refine k_Qi F w (As := [.int (zI v5_24)]) (rest := [.int (zI z50)]) (i := i9) hi9 (q_J0_charAt_5068e (i9 := i9) hi9 (x := v5_24) (by omega) (by omega) hI) gv_X5_122 hv_J0_charAt_5068e ⟨(Nat.le_of_ble_eq_true rfl), (Nat.le_of_ble_eq_true rfl)⟩ hl.1 rfl (Nat.le_of_ble_eq_true rfl) ⟨Nat.zero_le _, Nat.zero_le _⟩ dX5_choiceOf_117 (fun r51 N52 H locs hp w => ?_)
                  obtain ⟨z53, rfl, bz53, hMN52⟩ := hp
                  rw [hMN52] at w
                  refine z_icmp_ne (tgt := 127) hx hb (by omega) (by omega) dX5_choiceOf_120 (by decide) (fun c54 => ?_) (fun c54 => ?_)
                  · refine lv_iconst (v := zI 0) hx hb dX5_choiceOf_127 rfl ?_
                    refine lv_istore (lv' := [(4, .int (zI 0)), (5, .int (zI v5_24)), (3, .int (zI v3_24)), (2, .int (zI v2_24)), (0, .ref (B + 4)), (1, .ref (D.2 200 i9))]) hx hb dX5_choiceOf_128 hl (by decide) rfl (fun ls hl => ?_)
                    refine z_iinc (v := (v3_24 + 1)) (lv' := [(3, .int (zI (v3_24 + 1))), (4, .int (zI 0)), (5, .int (zI v5_24)), (2, .int (zI v2_24)), (0, .ref (B + 4)), (1, .ref (D.2 200 i9))]) hx hb dX5_choiceOf_130 hl (k := 2) rfl (by omega) (by decide) rfl (fun ls hl => ?_)
                    refine z_iinc (v := (v5_24 + 1)) (lv' := [(5, .int (zI (v5_24 + 1))), (3, .int (zI (v3_24 + 1))), (4, .int (zI 0)), (2, .int (zI v2_24)), (0, .ref (B + 4)), (1, .ref (D.2 200 i9))]) hx hb dX5_choiceOf_133 hl (k := 2) rfl (by omega) (by decide) rfl (fun ls hl => ?_)
                    refine lv_goto (tgt := 24) hx hb dX5_choiceOf_136 (by decide) ?_
                    exact ih24 (v5_24 + 1) 0 (v3_24 + 1) v2_24 (by omega) (by omega) (by omega) (by omega)   (by omega) (by omega)  (by omega) _ _ _ w (lv_sub hl [0, 2, 1, 3, 4, 5] rfl)
                  · refine lv_iconst (v := zI 1) hx hb dX5_choiceOf_123 rfl ?_
                    refine lv_goto (tgt := 128) hx hb dX5_choiceOf_124 (by decide) ?_
                    refine lv_istore (lv' := [(4, .int (zI 1)), (5, .int (zI v5_24)), (3, .int (zI v3_24)), (2, .int (zI v2_24)), (0, .ref (B + 4)), (1, .ref (D.2 200 i9))]) hx hb dX5_choiceOf_128 hl (by decide) rfl (fun ls hl => ?_)
                    refine z_iinc (v := (v3_24 + 1)) (lv' := [(3, .int (zI (v3_24 + 1))), (4, .int (zI 1)), (5, .int (zI v5_24)), (2, .int (zI v2_24)), (0, .ref (B + 4)), (1, .ref (D.2 200 i9))]) hx hb dX5_choiceOf_130 hl (k := 2) rfl (by omega) (by decide) rfl (fun ls hl => ?_)
                    refine z_iinc (v := (v5_24 + 1)) (lv' := [(5, .int (zI (v5_24 + 1))), (3, .int (zI (v3_24 + 1))), (4, .int (zI 1)), (2, .int (zI v2_24)), (0, .ref (B + 4)), (1, .ref (D.2 200 i9))]) hx hb dX5_choiceOf_133 hl (k := 2) rfl (by omega) (by decide) rfl (fun ls hl => ?_)
                    refine lv_goto (tgt := 24) hx hb dX5_choiceOf_136 (by decide) ?_
                    exact ih24 (v5_24 + 1) 1 (v3_24 + 1) v2_24 (by omega) (by omega) (by omega) (by omega)   (by omega) (by omega)  (by omega) _ _ _ w (lv_sub hl [0, 2, 1, 3, 4, 5] rfl)
            · refine lv_iload hx hb dX5_choiceOf_53 (lv_at hl 1 rfl) ?_
              refine z_if_eq (tgt := 68) hx hb (by omega) dX5_choiceOf_55 (by decide) (fun c55 => ?_) (fun c55 => ?_)
              · obtain ⟨z56, bz56, x0z56, ez56⟩ := add_ex v2_24 1
                refine lv_iinc (v := zI z56) (lv' := [(2, .int (zI z56)), (5, .int (zI v5_24)), (4, .int (zI v4_24)), (3, .int (zI v3_24)), (0, .ref (B + 4)), (1, .ref (D.2 200 i9))]) hx hb dX5_choiceOf_68 hl (k := 3) rfl (by first | exact ez56 | (rw [← ez56]; rfl)) (by decide) rfl (fun ls hl => ?_)
                refine lv_aload_n hx hb dX5_choiceOf_71 rfl (lv_at hl 4 rfl) ?_
                refine f_5_3 F w (a := 4) rfl tb_471 dX5_choiceOf_72 ?_
                refine r_val (v := zI z1) (ez1) ?_
                refine lv_istore_n (lv' := [(3, .int (zI z1)), (2, .int (zI z56)), (5, .int (zI v5_24)), (4, .int (zI v4_24)), (0, .ref (B + 4)), (1, .ref (D.2 200 i9))]) hx hb dX5_choiceOf_75 rfl hl (by decide) rfl (fun ls hl => ?_)
                refine lv_aload_n hx hb dX5_choiceOf_76 rfl (lv_at hl 4 rfl) ?_
                refine f_5_5 F w (a := 4) rfl tb_473 dX5_choiceOf_77 ?_
                refine r_val (v := zI z2) (ez2) ?_
                refine z_if_ne (tgt := 87) hx hb (by omega) dX5_choiceOf_80 (by decide) (fun c57 => False.elim (by omega)) (fun c57 => ?_)
                refine lv_iconst (v := zI 1) hx hb dX5_choiceOf_83 rfl ?_
                refine lv_goto (tgt := 88) hx hb dX5_choiceOf_84 (by decide) ?_
                refine lv_istore (lv' := [(4, .int (zI 1)), (3, .int (zI z1)), (2, .int (zI z56)), (5, .int (zI v5_24)), (0, .ref (B + 4)), (1, .ref (D.2 200 i9))]) hx hb dX5_choiceOf_88 hl (by decide) rfl (fun ls hl => ?_)
                refine lv_goto (tgt := 133) hx hb dX5_choiceOf_90 (by decide) ?_
                refine z_iinc (v := (v5_24 + 1)) (lv' := [(5, .int (zI (v5_24 + 1))), (4, .int (zI 1)), (3, .int (zI z1)), (2, .int (zI z56)), (0, .ref (B + 4)), (1, .ref (D.2 200 i9))]) hx hb dX5_choiceOf_133 hl (k := 3) rfl (by omega) (by decide) rfl (fun ls hl => ?_)
                refine lv_goto (tgt := 24) hx hb dX5_choiceOf_136 (by decide) ?_
                exact ih24 (v5_24 + 1) 1 z1 z56 (by omega) (by omega) (by omega) (by omega)   (by omega) (by omega)  (by omega) _ _ _ w (lv_sub hl [0, 1, 2, 3, 4, 5] rfl)
              · refine lv_iload_n hx hb dX5_choiceOf_58 rfl (lv_at hl 2 rfl) ?_
                refine lv_aload_n hx hb dX5_choiceOf_59 rfl (lv_at hl 4 rfl) ?_
                refine f_5_4 F w (a := 4) rfl tb_468 dX5_choiceOf_60 ?_
                obtain ⟨z58, bz58, ez58⟩ := Inv.ld (k := 4) hI (show iv 4 4 = ((-2147483648), 2147483647) from rfl) (show 4 < 146 by decide)
                refine r_val ez58 ?_
                refine z_icmp_ne (tgt := 68) hx hb (by omega) (by omega) dX5_choiceOf_63 (by decide) (fun c59 => ?_) (fun c59 => ?_)
                · obtain ⟨z60, bz60, x0z60, ez60⟩ := add_ex v2_24 1
                  refine lv_iinc (v := zI z60) (lv' := [(2, .int (zI z60)), (5, .int (zI v5_24)), (4, .int (zI v4_24)), (3, .int (zI v3_24)), (0, .ref (B + 4)), (1, .ref (D.2 200 i9))]) hx hb dX5_choiceOf_68 hl (k := 3) rfl (by first | exact ez60 | (rw [← ez60]; rfl)) (by decide) rfl (fun ls hl => ?_)
                  refine lv_aload_n hx hb dX5_choiceOf_71 rfl (lv_at hl 4 rfl) ?_
                  refine f_5_3 F w (a := 4) rfl tb_471 dX5_choiceOf_72 ?_
                  refine r_val (v := zI z1) (ez1) ?_
                  refine lv_istore_n (lv' := [(3, .int (zI z1)), (2, .int (zI z60)), (5, .int (zI v5_24)), (4, .int (zI v4_24)), (0, .ref (B + 4)), (1, .ref (D.2 200 i9))]) hx hb dX5_choiceOf_75 rfl hl (by decide) rfl (fun ls hl => ?_)
                  refine lv_aload_n hx hb dX5_choiceOf_76 rfl (lv_at hl 4 rfl) ?_
                  refine f_5_5 F w (a := 4) rfl tb_473 dX5_choiceOf_77 ?_
                  refine r_val (v := zI z2) (ez2) ?_
                  refine z_if_ne (tgt := 87) hx hb (by omega) dX5_choiceOf_80 (by decide) (fun c61 => False.elim (by omega)) (fun c61 => ?_)
                  refine lv_iconst (v := zI 1) hx hb dX5_choiceOf_83 rfl ?_
                  refine lv_goto (tgt := 88) hx hb dX5_choiceOf_84 (by decide) ?_
                  refine lv_istore (lv' := [(4, .int (zI 1)), (3, .int (zI z1)), (2, .int (zI z60)), (5, .int (zI v5_24)), (0, .ref (B + 4)), (1, .ref (D.2 200 i9))]) hx hb dX5_choiceOf_88 hl (by decide) rfl (fun ls hl => ?_)
                  refine lv_goto (tgt := 133) hx hb dX5_choiceOf_90 (by decide) ?_
                  refine z_iinc (v := (v5_24 + 1)) (lv' := [(5, .int (zI (v5_24 + 1))), (4, .int (zI 1)), (3, .int (zI z1)), (2, .int (zI z60)), (0, .ref (B + 4)), (1, .ref (D.2 200 i9))]) hx hb dX5_choiceOf_133 hl (k := 3) rfl (by omega) (by decide) rfl (fun ls hl => ?_)
                  refine lv_goto (tgt := 24) hx hb dX5_choiceOf_136 (by decide) ?_
                  exact ih24 (v5_24 + 1) 1 z1 z60 (by omega) (by omega) (by omega) (by omega)   (by omega) (by omega)  (by omega) _ _ _ w (lv_sub hl [0, 1, 2, 3, 4, 5] rfl)
                · refine lv_iload_n hx hb dX5_choiceOf_66 rfl (lv_at hl 3 rfl) ?_
                  rw [hQ]
                  exact e_i F w hr hlocks ⟨_, rfl, (by omega), rfl⟩ dX5_choiceOf_67
    exact lp24 _ 0 1 z1 0 (by omega) (by omega) (by omega) (by omega) (by omega) (by omega) (Nat.lt_succ_self _) _ _ _ w (lv_sub hl [0, 1, 2, 3, 4, 5] rfl)
theorem dX5_readWord_0 : decode cX5_readWord 0 = .ok (.aload_n 0, 1) := rdX5_readWord_0
theorem dX5_readWord_1 : decode cX5_readWord 1 = .ok (.aload_n 1, 1) := rdX5_readWord_1
theorem dX5_readWord_2 : decode cX5_readWord 2 = .ok (.invokevirtual 112, 3) := rdX5_readWord_2
theorem tk_X5_choiceOf : Cond.code yX5_choiceOf cX5_choiceOf 6 (some .int) ∈ TB := rtk_X5_choiceOf
theorem gc_X5_choiceOf : GoodIn TB (cw yX5_choiceOf cX5_choiceOf 6 (some .int)) := goodIn_c2 tk_X5_choiceOf
theorem tb_483 : Cond.methodLink "ToneLines$RuleReader" 112 yX5_choiceOf ∈ TB := rtb_44
theorem tb_484 : Cond.instanceMethod yX5_choiceOf ∈ TB := rtb_45
theorem tb_485 : Cond.selects "ToneLines$RuleReader" yX5_choiceOf yX5_choiceOf ∈ TB := rtb_46
theorem gv_X5_112 : GoodIn TB (wsV RX5 112 RX5 yX5_choiceOf (cw yX5_choiceOf cX5_choiceOf 6 (some .int))) := goodIn_4 tb_483 tb_484 tb_485 tb_477 gc_X5_choiceOf
theorem hv_X5_choiceOf : yX5_choiceOf.cls = RX5 ∧ yX5_choiceOf.cls ≠ "java/lang/invoke/MethodHandle" ∧ yX5_choiceOf.cls ≠ "java/lang/invoke/VarHandle" ∧ (parseMethodDescriptor yX5_choiceOf.desc).map (fun d => d.parameters.length) = some 1 := rhv_X5_choiceOf
theorem dX5_readWord_5 : decode cX5_readWord 5 = .ok (.ifCond .eq 5, 3) := rdX5_readWord_5
theorem dX5_readWord_10 : decode cX5_readWord 10 = .ok (.aload_n 0, 1) := rdX5_readWord_10
theorem dX5_readWord_11 : decode cX5_readWord 11 = .ok (.invokevirtual 36, 3) := rdX5_readWord_11
theorem tk_X5_step : Cond.code yX5_step cX5_step 2 none ∈ TB := rtk_X5_step
theorem gc_X5_step : GoodIn TB (cw yX5_step cX5_step 2 none) := goodIn_c2 tk_X5_step
theorem tb_486 : Cond.methodLink "ToneLines$RuleReader" 36 yX5_step ∈ TB := rtb_47
theorem tb_487 : Cond.instanceMethod yX5_step ∈ TB := rtb_48
theorem tb_488 : Cond.selects "ToneLines$RuleReader" yX5_step yX5_step ∈ TB := rtb_49
theorem gv_X5_36 : GoodIn TB (wsV RX5 36 RX5 yX5_step (cw yX5_step cX5_step 2 none)) := goodIn_4 tb_486 tb_487 tb_488 tb_477 gc_X5_step
theorem hv_X5_step : yX5_step.cls = RX5 ∧ yX5_step.cls ≠ "java/lang/invoke/MethodHandle" ∧ yX5_step.cls ≠ "java/lang/invoke/VarHandle" ∧ (parseMethodDescriptor yX5_step.desc).map (fun d => d.parameters.length) = some 0 := rhv_X5_step
theorem dX5_readWord_14 : decode cX5_readWord 14 = .ok (.iconst 1, 1) := rdX5_readWord_14
theorem dX5_readWord_15 : decode cX5_readWord 15 = .ok (.ireturn, 1) := rdX5_readWord_15
theorem dX5_readWord_8 : decode cX5_readWord 8 = .ok (.iconst 0, 1) := rdX5_readWord_8
theorem dX5_readWord_9 : decode cX5_readWord 9 = .ok (.ireturn, 1) := rdX5_readWord_9
set_option maxRecDepth 4000 in
theorem q_X5_readWord {l : Launch} {D : va_G} {B : Nat} {cy : Nat → ClassId} {M : Mem} {i9 : Nat} (hi9 : i9 < NSL) (hI : Inv M) : Ci l D B cy yX5_readWord cX5_readWord 2 (some .boolean) 5 110 [.ref (B + 4), .ref (D.2 200 i9)] M (fun r M1 => ∃ z : Int, r = zI z ∧ (0 ≤ z ∧ z ≤ 1) ∧ Inv M1 ∧ Fr (fun b9 k9 => (b9 = 4 ∧ k9 = 3) ∨ (b9 = 4 ∧ k9 = 4) ∨ (b9 = 4 ∧ k9 = 5)) M1 M) := by
  refine s_anyQ (by decide) (Nat.le_of_ble_eq_true rfl) ?_
  intro p e s m args below meth c ls Q F hr hlocks hQ w hl
  have F : CallFix p m c cX5_readWord 2 s args TB RX5 := F
  have hx := F.1
  have hb := F.2.1
  have hl : lv_has ls 2 [(0, .ref (B + 4)), (1, .ref (D.2 200 i9))] := hl
  have hsn_i9 := sl_len hi9
  have hF : Fr (fun b9 k9 => (b9 = 4 ∧ k9 = 3) ∨ (b9 = 4 ∧ k9 = 4) ∨ (b9 = 4 ∧ k9 = 5)) M M := Fr.rf
  refine lv_aload_n hx hb dX5_readWord_0 rfl (lv_at hl 0 rfl) ?_
  refine lv_aload_n hx hb dX5_readWord_1 rfl (lv_at hl 1 rfl) ?_
  refine k_Vi F w (As := [.ref (D.2 200 i9)]) (rest := []) (a := 4) (kd_lt (a := 4) (show kd 4 = (5, 0, 0) from rfl) (by decide)) (sh_5 rfl _ _) rfl (q_X5_choiceOf (i9 := i9) hi9  hI) gv_X5_112 hv_X5_choiceOf ⟨(Nat.le_of_ble_eq_true rfl), (Nat.le_of_ble_eq_true rfl)⟩ hl.1 rfl (Nat.le_of_ble_eq_true rfl) ⟨Nat.zero_le _, Nat.zero_le _⟩ dX5_readWord_2 (fun r1 N2 H locs hp w => ?_)
  obtain ⟨z3, rfl, bz3, hMN2⟩ := hp
  rw [hMN2] at w
  refine z_if_eq (tgt := 10) hx hb (by omega) dX5_readWord_5 (by decide) (fun c4 => ?_) (fun c4 => ?_)
  · refine lv_aload_n hx hb dX5_readWord_10 rfl (lv_at hl 0 rfl) ?_
    refine k_Vv F w (As := []) (rest := []) (a := 4) (kd_lt (a := 4) (show kd 4 = (5, 0, 0) from rfl) (by decide)) (sh_5 rfl _ _) rfl (q_X5_step   hI) gv_X5_36 hv_X5_step ⟨(Nat.le_of_ble_eq_true rfl), (Nat.le_of_ble_eq_true rfl)⟩ hl.1 rfl (Nat.le_of_ble_eq_true rfl) ⟨Nat.zero_le _, Nat.zero_le _⟩ dX5_readWord_11 (fun N6 H locs hp w => ?_)
    obtain ⟨hIN6, hFN6⟩ := hp
    have hGN6 := Fr.tr hF hFN6 (S := (fun b9 k9 => (b9 = 4 ∧ k9 = 3) ∨ (b9 = 4 ∧ k9 = 4) ∨ (b9 = 4 ∧ k9 = 5))) (fun b k h => by (try dsimp only at h ⊢); (repeat' (refine Or.elim h ?_ ?_ <;> clear h <;> intro h)); all_goals first | (obtain ⟨rfl, rfl⟩ := h; decide) | (subst h; decide) | omega)
    refine lv_iconst (v := zI 1) hx hb dX5_readWord_14 rfl ?_
    rw [hQ]
    exact e_z F w hr hlocks (nar_z (by omega)) ⟨_, rfl, (by omega), hIN6, hGN6⟩ dX5_readWord_15
  · refine lv_iconst (v := zI 0) hx hb dX5_readWord_8 rfl ?_
    rw [hQ]
    exact e_z F w hr hlocks (nar_z (by omega)) ⟨_, rfl, (by omega), hI, hF⟩ dX5_readWord_9
theorem dX5_readChoice_0 : decode cX5_readChoice 0 = .ok (.aload_n 0, 1) := rdX5_readChoice_0
theorem dX5_readChoice_1 : decode cX5_readChoice 1 = .ok (.aload_n 3, 1) := rdX5_readChoice_1
theorem dX5_readChoice_2 : decode cX5_readChoice 2 = .ok (.invokevirtual 112, 3) := rdX5_readChoice_2
theorem dX5_readChoice_5 : decode cX5_readChoice 5 = .ok (.istore 4, 2) := rdX5_readChoice_5
theorem dX5_readChoice_7 : decode cX5_readChoice 7 = .ok (.iload 4, 2) := rdX5_readChoice_7
theorem dX5_readChoice_9 : decode cX5_readChoice 9 = .ok (.iconst (-1), 1) := rdX5_readChoice_9
theorem dX5_readChoice_10 : decode cX5_readChoice 10 = .ok (.if_icmp .eq 13, 3) := rdX5_readChoice_10
theorem dX5_readChoice_23 : decode cX5_readChoice 23 = .ok (.iconst 0, 1) := rdX5_readChoice_23
theorem dX5_readChoice_24 : decode cX5_readChoice 24 = .ok (.ireturn, 1) := rdX5_readChoice_24
theorem dX5_readChoice_13 : decode cX5_readChoice 13 = .ok (.iload_n 2, 1) := rdX5_readChoice_13
theorem dX5_readChoice_14 : decode cX5_readChoice 14 = .ok (.ifCond .lt 9, 3) := rdX5_readChoice_14
theorem dX5_readChoice_17 : decode cX5_readChoice 17 = .ok (.iload_n 2, 1) := rdX5_readChoice_17
theorem dX5_readChoice_18 : decode cX5_readChoice 18 = .ok (.bipush 8, 2) := rdX5_readChoice_18
theorem dX5_readChoice_20 : decode cX5_readChoice 20 = .ok (.if_icmp .lt 5, 3) := rdX5_readChoice_20
theorem dX5_readChoice_25 : decode cX5_readChoice 25 = .ok (.aload_n 1, 1) := rdX5_readChoice_25
theorem dX5_readChoice_26 : decode cX5_readChoice 26 = .ok (.getfield 71, 3) := rdX5_readChoice_26
theorem tb_489 : Cond.fieldLink "ToneLines$RuleReader" 71 "ToneLines$Rule" "parts" "[I" ∈ TB := rtb_50
theorem dX5_readChoice_29 : decode cX5_readChoice 29 = .ok (.iload_n 2, 1) := rdX5_readChoice_29
theorem dX5_readChoice_30 : decode cX5_readChoice 30 = .ok (.iload 4, 2) := rdX5_readChoice_30
theorem dX5_readChoice_32 : decode cX5_readChoice 32 = .ok (.iastore, 1) := rdX5_readChoice_32
theorem dX5_readChoice_33 : decode cX5_readChoice 33 = .ok (.aload_n 0, 1) := rdX5_readChoice_33
theorem dX5_readChoice_34 : decode cX5_readChoice 34 = .ok (.invokevirtual 36, 3) := rdX5_readChoice_34
theorem dX5_readChoice_37 : decode cX5_readChoice 37 = .ok (.iconst 1, 1) := rdX5_readChoice_37
theorem dX5_readChoice_38 : decode cX5_readChoice 38 = .ok (.ireturn, 1) := rdX5_readChoice_38
set_option maxRecDepth 4000 in
theorem q_X5_readChoice {l : Launch} {D : va_G} {B : Nat} {cy : Nat → ClassId} {M : Mem} {u1 : Nat} (hku1 : kd u1 = (4, 0, 0)) {x : Int} (hx : (-2147483648) ≤ x ∧ x ≤ 2147483647) {i9 : Nat} (hi9 : i9 < NSL) (hI : Inv M) : Ci l D B cy yX5_readChoice cX5_readChoice 5 (some .boolean) 5 110 [.ref (B + 4), .ref (B + u1), .int (zI x), .ref (D.2 200 i9)] M (fun r M1 => ∃ z : Int, r = zI z ∧ (0 ≤ z ∧ z ≤ 1) ∧ Inv M1 ∧ Fr (fun b9 k9 => (b9 = 4 ∧ k9 = 3) ∨ (b9 = 4 ∧ k9 = 4) ∨ (b9 = 4 ∧ k9 = 5) ∨ b9 = (u1 + 1)) M1 M) := by
  refine s_anyQ (by decide) (Nat.le_of_ble_eq_true rfl) ?_
  intro p e s m args below meth c ls Q F hr hlocks hQ w hl
  have F : CallFix p m c cX5_readChoice 5 s args TB RX5 := F
  have hx := F.1
  have hb := F.2.1
  have hl : lv_has ls 5 [(0, .ref (B + 4)), (1, .ref (B + u1)), (2, .int (zI x)), (3, .ref (D.2 200 i9))] := hl
  have hsn_i9 := sl_len hi9
  have hF : Fr (fun b9 k9 => (b9 = 4 ∧ k9 = 3) ∨ (b9 = 4 ∧ k9 = 4) ∨ (b9 = 4 ∧ k9 = 5) ∨ b9 = (u1 + 1)) M M := Fr.rf
  refine lv_aload_n hx hb dX5_readChoice_0 rfl (lv_at hl 0 rfl) ?_
  refine lv_aload_n hx hb dX5_readChoice_1 rfl (lv_at hl 3 rfl) ?_
  refine k_Vi F w (As := [.ref (D.2 200 i9)]) (rest := []) (a := 4) (kd_lt (a := 4) (show kd 4 = (5, 0, 0) from rfl) (by decide)) (sh_5 rfl _ _) rfl (q_X5_choiceOf (i9 := i9) hi9  hI) gv_X5_112 hv_X5_choiceOf ⟨(Nat.le_of_ble_eq_true rfl), (Nat.le_of_ble_eq_true rfl)⟩ hl.1 rfl (Nat.le_of_ble_eq_true rfl) ⟨Nat.zero_le _, Nat.zero_le _⟩ dX5_readChoice_2 (fun r1 N2 H locs hp w => ?_)
  obtain ⟨z3, rfl, bz3, hMN2⟩ := hp
  rw [hMN2] at w
  refine lv_istore (lv' := [(4, .int (zI z3)), (0, .ref (B + 4)), (1, .ref (B + u1)), (2, .int (zI x)), (3, .ref (D.2 200 i9))]) hx hb dX5_readChoice_5 hl (by decide) rfl (fun ls hl => ?_)
  refine lv_iload hx hb dX5_readChoice_7 (lv_at hl 0 rfl) ?_
  refine lv_iconst (v := zI (-1)) hx hb dX5_readChoice_9 rfl ?_
  refine z_icmp_eq (tgt := 23) hx hb (by omega) (by omega) dX5_readChoice_10 (by decide) (fun c4 => ?_) (fun c4 => ?_)
  · refine lv_iconst (v := zI 0) hx hb dX5_readChoice_23 rfl ?_
    rw [hQ]
    exact e_z F w hr hlocks (nar_z (by omega)) ⟨_, rfl, (by omega), hI, hF⟩ dX5_readChoice_24
  · refine lv_iload_n hx hb dX5_readChoice_13 rfl (lv_at hl 3 rfl) ?_
    refine z_if_lt (tgt := 23) hx hb (by omega) dX5_readChoice_14 (by decide) (fun c5 => ?_) (fun c5 => ?_)
    · refine lv_iconst (v := zI 0) hx hb dX5_readChoice_23 rfl ?_
      rw [hQ]
      exact e_z F w hr hlocks (nar_z (by omega)) ⟨_, rfl, (by omega), hI, hF⟩ dX5_readChoice_24
    · refine lv_iload_n hx hb dX5_readChoice_17 rfl (lv_at hl 3 rfl) ?_
      refine lv_bipush (v := zI 8) hx hb dX5_readChoice_18 (by decide) ?_
      refine z_icmp_lt (tgt := 25) hx hb (by omega) (by omega) dX5_readChoice_20 (by decide) (fun c6 => ?_) (fun c6 => ?_)
      · refine lv_aload_n hx hb dX5_readChoice_25 rfl (lv_at hl 2 rfl) ?_
        refine f_4_0 F w (a := u1) hku1 tb_489 dX5_readChoice_26 ?_
        refine lv_iload_n hx hb dX5_readChoice_29 rfl (lv_at hl 3 rfl) ?_
        refine lv_iload hx hb dX5_readChoice_30 (lv_at hl 0 rfl) ?_
        refine g_iast F w (a := (u1 + 1)) (iv_u hku1).2.2 (j := (Int.toNat x)) (ix_z (by omega) (by omega)) (by omega) dX5_readChoice_32 (fun H locs w => ?_)
        refine lv_aload_n hx hb dX5_readChoice_33 rfl (lv_at hl 1 rfl) ?_
        refine k_Vv F w (As := []) (rest := []) (a := 4) (kd_lt (a := 4) (show kd 4 = (5, 0, 0) from rfl) (by decide)) (sh_5 rfl _ _) rfl (q_X5_step   (Inv.to hI (a := (u1 + 1)) (k := (Int.toNat x)) (x := z3) (iv_up hku1 _) (by omega))) gv_X5_36 hv_X5_step ⟨(Nat.le_of_ble_eq_true rfl), (Nat.le_of_ble_eq_true rfl)⟩ hl.1 rfl (Nat.le_of_ble_eq_true rfl) ⟨Nat.zero_le _, Nat.zero_le _⟩ dX5_readChoice_34 (fun N8 H locs hp w => ?_)
        obtain ⟨hIN8, hFN8⟩ := hp
        have hGN8 := Fr.tr (Fr.to hF (by first | omega | (dsimp only; first | done | omega))) hFN8 (S := (fun b9 k9 => (b9 = 4 ∧ k9 = 3) ∨ (b9 = 4 ∧ k9 = 4) ∨ (b9 = 4 ∧ k9 = 5) ∨ b9 = (u1 + 1))) (fun b k h => by (try dsimp only at h ⊢); (repeat' (refine Or.elim h ?_ ?_ <;> clear h <;> intro h)); all_goals first | (obtain ⟨rfl, rfl⟩ := h; decide) | (subst h; decide) | omega)
        refine lv_iconst (v := zI 1) hx hb dX5_readChoice_37 rfl ?_
        rw [hQ]
        exact e_z F w hr hlocks (nar_z (by omega)) ⟨_, rfl, (by omega), hIN8, hGN8⟩ dX5_readChoice_38
      · refine lv_iconst (v := zI 0) hx hb dX5_readChoice_23 rfl ?_
        rw [hQ]
        exact e_z F w hr hlocks (nar_z (by omega)) ⟨_, rfl, (by omega), hI, hF⟩ dX5_readChoice_24
theorem dX5_readTimes_0 : decode cX5_readTimes 0 = .ok (.aload_n 0, 1) := rdX5_readTimes_0
theorem dX5_readTimes_1 : decode cX5_readTimes 1 = .ok (.getfield 31, 3) := rdX5_readTimes_1
theorem dX5_readTimes_4 : decode cX5_readTimes 4 = .ok (.aload_n 0, 1) := rdX5_readTimes_4
theorem dX5_readTimes_5 : decode cX5_readTimes 5 = .ok (.getfield 21, 3) := rdX5_readTimes_5
theorem dX5_readTimes_8 : decode cX5_readTimes 8 = .ok (.invokevirtual 52, 3) := rdX5_readTimes_8
theorem dX5_readTimes_11 : decode cX5_readTimes 11 = .ok (.invokestatic 109, 3) := rdX5_readTimes_11
theorem dX5_readTimes_14 : decode cX5_readTimes 14 = .ok (.istore_n 2, 1) := rdX5_readTimes_14
theorem dX5_readTimes_15 : decode cX5_readTimes 15 = .ok (.aload_n 0, 1) := rdX5_readTimes_15
theorem dX5_readTimes_16 : decode cX5_readTimes 16 = .ok (.getfield 27, 3) := rdX5_readTimes_16
theorem dX5_readTimes_19 : decode cX5_readTimes 19 = .ok (.ifCond .ne 8, 3) := rdX5_readTimes_19
theorem dX5_readTimes_27 : decode cX5_readTimes 27 = .ok (.iconst 0, 1) := rdX5_readTimes_27
theorem dX5_readTimes_28 : decode cX5_readTimes 28 = .ok (.ireturn, 1) := rdX5_readTimes_28
theorem dX5_readTimes_22 : decode cX5_readTimes 22 = .ok (.iload_n 2, 1) := rdX5_readTimes_22
theorem dX5_readTimes_23 : decode cX5_readTimes 23 = .ok (.iconst 1, 1) := rdX5_readTimes_23
theorem dX5_readTimes_24 : decode cX5_readTimes 24 = .ok (.if_icmp .ge 5, 3) := rdX5_readTimes_24
theorem dX5_readTimes_29 : decode cX5_readTimes 29 = .ok (.aload_n 1, 1) := rdX5_readTimes_29
theorem dX5_readTimes_30 : decode cX5_readTimes 30 = .ok (.getfield 71, 3) := rdX5_readTimes_30
theorem dX5_readTimes_33 : decode cX5_readTimes 33 = .ok (.iconst 3, 1) := rdX5_readTimes_33
theorem dX5_readTimes_34 : decode cX5_readTimes 34 = .ok (.iload_n 2, 1) := rdX5_readTimes_34
theorem dX5_readTimes_35 : decode cX5_readTimes 35 = .ok (.iastore, 1) := rdX5_readTimes_35
theorem dX5_readTimes_36 : decode cX5_readTimes 36 = .ok (.aload_n 0, 1) := rdX5_readTimes_36
theorem dX5_readTimes_37 : decode cX5_readTimes 37 = .ok (.invokevirtual 36, 3) := rdX5_readTimes_37
theorem dX5_readTimes_40 : decode cX5_readTimes 40 = .ok (.iconst 1, 1) := rdX5_readTimes_40
theorem dX5_readTimes_41 : decode cX5_readTimes 41 = .ok (.ireturn, 1) := rdX5_readTimes_41
set_option maxRecDepth 4000 in
theorem q_X5_readTimes {l : Launch} {D : va_G} {B : Nat} {cy : Nat → ClassId} {M : Mem} {u1 : Nat} (hku1 : kd u1 = (4, 0, 0)) (hI : Inv M) : Ci l D B cy yX5_readTimes cX5_readTimes 3 (some .boolean) 2 43 [.ref (B + 4), .ref (B + u1)] M (fun r M1 => ∃ z : Int, r = zI z ∧ (0 ≤ z ∧ z ≤ 1) ∧ Inv M1 ∧ Fr (fun b9 k9 => (b9 = 4 ∧ k9 = 3) ∨ (b9 = 4 ∧ k9 = 4) ∨ (b9 = 4 ∧ k9 = 5) ∨ b9 = (u1 + 1)) M1 M) := by
  refine s_anyQ (by decide) (Nat.le_of_ble_eq_true rfl) ?_
  intro p e s m args below meth c ls Q F hr hlocks hQ w hl
  have F : CallFix p m c cX5_readTimes 3 s args TB RX5 := F
  have hx := F.1
  have hb := F.2.1
  have hl : lv_has ls 3 [(0, .ref (B + 4)), (1, .ref (B + u1))] := hl
  have hF : Fr (fun b9 k9 => (b9 = 4 ∧ k9 = 3) ∨ (b9 = 4 ∧ k9 = 4) ∨ (b9 = 4 ∧ k9 = 5) ∨ b9 = (u1 + 1)) M M := Fr.rf
  refine lv_aload_n hx hb dX5_readTimes_0 rfl (lv_at hl 0 rfl) ?_
  refine f_5_0 F w (a := 4) rfl tb_469 dX5_readTimes_1 ?_
  refine lv_aload_n hx hb dX5_readTimes_4 rfl (lv_at hl 0 rfl) ?_
  refine f_5_3 F w (a := 4) rfl tb_471 dX5_readTimes_5 ?_
  obtain ⟨z1, bz1, ez1⟩ := Inv.ld (k := 3) hI (show iv 4 3 = ((-2147483648), 2147483647) from rfl) (show 4 < 146 by decide)
  refine r_val ez1 ?_
  refine k_Vi F w (As := [.int (zI z1)]) (rest := []) (a := 1) (kd_lt (a := 1) (show kd 1 = (8, 0, 0) from rfl) (by decide)) (sh_8 rfl _ _) rfl (q_X8_signAt (x := z1) (by omega)  hI) gv_X5_52 hv_X8_signAt ⟨(Nat.le_of_ble_eq_true rfl), (Nat.le_of_ble_eq_true rfl)⟩ hl.1 rfl (Nat.le_of_ble_eq_true rfl) ⟨Nat.zero_le _, Nat.zero_le _⟩ dX5_readTimes_8 (fun r2 N3 H locs hp w => ?_)
  obtain ⟨z4, rfl, bz4, xz4, hMN3⟩ := hp
  rw [hMN3] at w
  refine k_Ni F w (As := [.int (zI z4)]) (rest := []) (q_X11_digitOf (x := z4) (by omega)  hI) gc_X11_digitOf tb_95 tb_440 (by decide) hs_X11_digitOf ⟨(Nat.le_of_ble_eq_true rfl), (Nat.le_of_ble_eq_true rfl)⟩ hl.1 rfl (Nat.le_of_ble_eq_true rfl) ⟨Nat.zero_le _, Nat.zero_le _⟩ dX5_readTimes_11 (fun r5 N6 H locs hp w => ?_)
  obtain ⟨z7, rfl, bz7, hMN6⟩ := hp
  rw [hMN6] at w
  refine lv_istore_n (lv' := [(2, .int (zI z7)), (0, .ref (B + 4)), (1, .ref (B + u1))]) hx hb dX5_readTimes_14 rfl hl (by decide) rfl (fun ls hl => ?_)
  refine lv_aload_n hx hb dX5_readTimes_15 rfl (lv_at hl 1 rfl) ?_
  refine f_5_5 F w (a := 4) rfl tb_473 dX5_readTimes_16 ?_
  obtain ⟨z8, bz8, ez8⟩ := Inv.ld (k := 5) hI (show iv 4 5 = (0, 1) from rfl) (show 4 < 146 by decide)
  refine r_val ez8 ?_
  refine z_if_ne (tgt := 27) hx hb (by omega) dX5_readTimes_19 (by decide) (fun c9 => ?_) (fun c9 => ?_)
  · refine lv_iconst (v := zI 0) hx hb dX5_readTimes_27 rfl ?_
    rw [hQ]
    exact e_z F w hr hlocks (nar_z (by omega)) ⟨_, rfl, (by omega), hI, hF⟩ dX5_readTimes_28
  · refine lv_iload_n hx hb dX5_readTimes_22 rfl (lv_at hl 0 rfl) ?_
    refine lv_iconst (v := zI 1) hx hb dX5_readTimes_23 rfl ?_
    refine z_icmp_ge (tgt := 29) hx hb (by omega) (by omega) dX5_readTimes_24 (by decide) (fun c10 => ?_) (fun c10 => ?_)
    · refine lv_aload_n hx hb dX5_readTimes_29 rfl (lv_at hl 2 rfl) ?_
      refine f_4_0 F w (a := u1) hku1 tb_489 dX5_readTimes_30 ?_
      refine lv_iconst (v := zI 3) hx hb dX5_readTimes_33 rfl ?_
      refine lv_iload_n hx hb dX5_readTimes_34 rfl (lv_at hl 0 rfl) ?_
      refine g_iast F w (a := (u1 + 1)) (iv_u hku1).2.2 (j := 3) ⟨by decide, by decide⟩ (by omega) dX5_readTimes_35 (fun H locs w => ?_)
      refine lv_aload_n hx hb dX5_readTimes_36 rfl (lv_at hl 1 rfl) ?_
      refine k_Vv F w (As := []) (rest := []) (a := 4) (kd_lt (a := 4) (show kd 4 = (5, 0, 0) from rfl) (by decide)) (sh_5 rfl _ _) rfl (q_X5_step   (Inv.to hI (a := (u1 + 1)) (k := 3) (x := z7) (iv_up hku1 _) (by omega))) gv_X5_36 hv_X5_step ⟨(Nat.le_of_ble_eq_true rfl), (Nat.le_of_ble_eq_true rfl)⟩ hl.1 rfl (Nat.le_of_ble_eq_true rfl) ⟨Nat.zero_le _, Nat.zero_le _⟩ dX5_readTimes_37 (fun N12 H locs hp w => ?_)
      obtain ⟨hIN12, hFN12⟩ := hp
      have hGN12 := Fr.tr (Fr.to hF (by first | omega | (dsimp only; first | done | omega))) hFN12 (S := (fun b9 k9 => (b9 = 4 ∧ k9 = 3) ∨ (b9 = 4 ∧ k9 = 4) ∨ (b9 = 4 ∧ k9 = 5) ∨ b9 = (u1 + 1))) (fun b k h => by (try dsimp only at h ⊢); (repeat' (refine Or.elim h ?_ ?_ <;> clear h <;> intro h)); all_goals first | (obtain ⟨rfl, rfl⟩ := h; decide) | (subst h; decide) | omega)
      refine lv_iconst (v := zI 1) hx hb dX5_readTimes_40 rfl ?_
      rw [hQ]
      exact e_z F w hr hlocks (nar_z (by omega)) ⟨_, rfl, (by omega), hIN12, hGN12⟩ dX5_readTimes_41
    · refine lv_iconst (v := zI 0) hx hb dX5_readTimes_27 rfl ?_
      rw [hQ]
      exact e_z F w hr hlocks (nar_z (by omega)) ⟨_, rfl, (by omega), hI, hF⟩ dX5_readTimes_28
theorem dX5_readTest_0 : decode cX5_readTest 0 = .ok (.aload_n 0, 1) := rdX5_readTest_0
theorem dX5_readTest_1 : decode cX5_readTest 1 = .ok (.ldc 105, 2) := rdX5_readTest_1
theorem dX5_readTest_3 : decode cX5_readTest 3 = .ok (.invokevirtual 67, 3) := rdX5_readTest_3
theorem tk_X5_readWord : Cond.code yX5_readWord cX5_readWord 2 (some .boolean) ∈ TB := rtk_X5_readWord
theorem gc_X5_readWord : GoodIn TB (cw yX5_readWord cX5_readWord 2 (some .boolean)) := goodIn_c2 tk_X5_readWord
theorem tb_490 : Cond.methodLink "ToneLines$RuleReader" 67 yX5_readWord ∈ TB := rtb_52
theorem tb_491 : Cond.instanceMethod yX5_readWord ∈ TB := rtb_53
theorem tb_492 : Cond.selects "ToneLines$RuleReader" yX5_readWord yX5_readWord ∈ TB := rtb_54
theorem gv_X5_67 : GoodIn TB (wsV RX5 67 RX5 yX5_readWord (cw yX5_readWord cX5_readWord 2 (some .boolean))) := goodIn_4 tb_490 tb_491 tb_492 tb_477 gc_X5_readWord
theorem hv_X5_readWord : yX5_readWord.cls = RX5 ∧ yX5_readWord.cls ≠ "java/lang/invoke/MethodHandle" ∧ yX5_readWord.cls ≠ "java/lang/invoke/VarHandle" ∧ (parseMethodDescriptor yX5_readWord.desc).map (fun d => d.parameters.length) = some 1 := rhv_X5_readWord
theorem dX5_readTest_6 : decode cX5_readTest 6 = .ok (.ifCond .eq 11, 3) := rdX5_readTest_6
theorem dX5_readTest_17 : decode cX5_readTest 17 = .ok (.aload_n 0, 1) := rdX5_readTest_17
theorem dX5_readTest_18 : decode cX5_readTest 18 = .ok (.aload_n 1, 1) := rdX5_readTest_18
theorem dX5_readTest_19 : decode cX5_readTest 19 = .ok (.iconst 5, 1) := rdX5_readTest_19
theorem dX5_readTest_20 : decode cX5_readTest 20 = .ok (.ldc 107, 2) := rdX5_readTest_20
theorem dX5_readTest_22 : decode cX5_readTest 22 = .ok (.invokevirtual 77, 3) := rdX5_readTest_22
theorem tk_X5_readChoice : Cond.code yX5_readChoice cX5_readChoice 5 (some .boolean) ∈ TB := rtk_X5_readChoice
theorem gc_X5_readChoice : GoodIn TB (cw yX5_readChoice cX5_readChoice 5 (some .boolean)) := goodIn_c2 tk_X5_readChoice
theorem tb_493 : Cond.methodLink "ToneLines$RuleReader" 77 yX5_readChoice ∈ TB := rtb_55
theorem tb_494 : Cond.instanceMethod yX5_readChoice ∈ TB := rtb_56
theorem tb_495 : Cond.selects "ToneLines$RuleReader" yX5_readChoice yX5_readChoice ∈ TB := rtb_57
theorem gv_X5_77 : GoodIn TB (wsV RX5 77 RX5 yX5_readChoice (cw yX5_readChoice cX5_readChoice 5 (some .boolean))) := goodIn_4 tb_493 tb_494 tb_495 tb_477 gc_X5_readChoice
theorem hv_X5_readChoice : yX5_readChoice.cls = RX5 ∧ yX5_readChoice.cls ≠ "java/lang/invoke/MethodHandle" ∧ yX5_readChoice.cls ≠ "java/lang/invoke/VarHandle" ∧ (parseMethodDescriptor yX5_readChoice.desc).map (fun d => d.parameters.length) = some 3 := rhv_X5_readChoice
theorem dX5_readTest_25 : decode cX5_readTest 25 = .ok (.ifCond .ne 5, 3) := rdX5_readTest_25
theorem dX5_readTest_30 : decode cX5_readTest 30 = .ok (.aload_n 1, 1) := rdX5_readTest_30
theorem dX5_readTest_31 : decode cX5_readTest 31 = .ok (.getfield 71, 3) := rdX5_readTest_31
theorem dX5_readTest_34 : decode cX5_readTest 34 = .ok (.iconst 5, 1) := rdX5_readTest_34
theorem dX5_readTest_35 : decode cX5_readTest 35 = .ok (.iaload, 1) := rdX5_readTest_35
theorem dX5_readTest_36 : decode cX5_readTest 36 = .ok (.istore_n 2, 1) := rdX5_readTest_36
theorem dX5_readTest_37 : decode cX5_readTest 37 = .ok (.iload_n 2, 1) := rdX5_readTest_37
theorem dX5_readTest_38 : decode cX5_readTest 38 = .ok (.iconst 5, 1) := rdX5_readTest_38
theorem dX5_readTest_39 : decode cX5_readTest 39 = .ok (.if_icmp .eq 9, 3) := rdX5_readTest_39
theorem dX5_readTest_48 : decode cX5_readTest 48 = .ok (.aload_n 0, 1) := rdX5_readTest_48
theorem dX5_readTest_49 : decode cX5_readTest 49 = .ok (.aload_n 1, 1) := rdX5_readTest_49
theorem dX5_readTest_50 : decode cX5_readTest 50 = .ok (.bipush 7, 2) := rdX5_readTest_50
theorem dX5_readTest_52 : decode cX5_readTest 52 = .ok (.ldc 99, 2) := rdX5_readTest_52
theorem dX5_readTest_54 : decode cX5_readTest 54 = .ok (.invokevirtual 77, 3) := rdX5_readTest_54
theorem dX5_readTest_57 : decode cX5_readTest 57 = .ok (.ifCond .eq 7, 3) := rdX5_readTest_57
theorem dX5_readTest_64 : decode cX5_readTest 64 = .ok (.iconst 0, 1) := rdX5_readTest_64
theorem dX5_readTest_65 : decode cX5_readTest 65 = .ok (.ireturn, 1) := rdX5_readTest_65
theorem dX5_readTest_60 : decode cX5_readTest 60 = .ok (.iconst 1, 1) := rdX5_readTest_60
theorem dX5_readTest_61 : decode cX5_readTest 61 = .ok (.goto 4, 3) := rdX5_readTest_61
theorem dX5_readTest_42 : decode cX5_readTest 42 = .ok (.iload_n 2, 1) := rdX5_readTest_42
theorem dX5_readTest_43 : decode cX5_readTest 43 = .ok (.bipush 6, 2) := rdX5_readTest_43
theorem dX5_readTest_45 : decode cX5_readTest 45 = .ok (.if_icmp .ne 15, 3) := rdX5_readTest_45
theorem dX5_readTest_28 : decode cX5_readTest 28 = .ok (.iconst 0, 1) := rdX5_readTest_28
theorem dX5_readTest_29 : decode cX5_readTest 29 = .ok (.ireturn, 1) := rdX5_readTest_29
theorem dX5_readTest_9 : decode cX5_readTest 9 = .ok (.aload_n 1, 1) := rdX5_readTest_9
theorem dX5_readTest_10 : decode cX5_readTest 10 = .ok (.getfield 71, 3) := rdX5_readTest_10
theorem dX5_readTest_13 : decode cX5_readTest 13 = .ok (.bipush 6, 2) := rdX5_readTest_13
theorem dX5_readTest_15 : decode cX5_readTest 15 = .ok (.iconst 1, 1) := rdX5_readTest_15
theorem dX5_readTest_16 : decode cX5_readTest 16 = .ok (.iastore, 1) := rdX5_readTest_16
set_option maxRecDepth 4000 in
theorem q_X5_readTest {l : Launch} {D : va_G} {B : Nat} {cy : Nat → ClassId} {M : Mem} {u1 : Nat} (hku1 : kd u1 = (4, 0, 0)) (hI : Inv M) : Ci l D B cy yX5_readTest cX5_readTest 3 (some .boolean) 6 134 [.ref (B + 4), .ref (B + u1)] M (fun r M1 => ∃ z : Int, r = zI z ∧ (0 ≤ z ∧ z ≤ 1) ∧ Inv M1 ∧ Fr (fun b9 k9 => (b9 = 4 ∧ k9 = 3) ∨ (b9 = 4 ∧ k9 = 4) ∨ (b9 = 4 ∧ k9 = 5) ∨ b9 = (u1 + 1)) M1 M) := by
  refine s_anyQ (by decide) (Nat.le_of_ble_eq_true rfl) ?_
  intro p e s m args below meth c ls Q F hr hlocks hQ w hl
  have F : CallFix p m c cX5_readTest 3 s args TB RX5 := F
  have hx := F.1
  have hb := F.2.1
  have hl : lv_has ls 3 [(0, .ref (B + 4)), (1, .ref (B + u1))] := hl
  have hF : Fr (fun b9 k9 => (b9 = 4 ∧ k9 = 3) ∨ (b9 = 4 ∧ k9 = 4) ∨ (b9 = 4 ∧ k9 = 5) ∨ b9 = (u1 + 1)) M M := Fr.rf
  refine lv_aload_n hx hb dX5_readTest_0 rfl (lv_at hl 0 rfl) ?_
  refine va_ldcS F.1 F.2.1 F.2.2.2.1 (show vk_R "ToneLines$RuleReader" 105 "not" (D.2 200 9) s from (w.2.2.2.2.1 9 (by decide)).1) dX5_readTest_1 ?_
  refine k_Vi F w (As := [.ref (D.2 200 9)]) (rest := []) (a := 4) (kd_lt (a := 4) (show kd 4 = (5, 0, 0) from rfl) (by decide)) (sh_5 rfl _ _) rfl (q_X5_readWord (i9 := 9) (show 9 < NSL by decide)  hI) gv_X5_67 hv_X5_readWord ⟨(Nat.le_of_ble_eq_true rfl), (Nat.le_of_ble_eq_true rfl)⟩ hl.1 rfl (Nat.le_of_ble_eq_true rfl) ⟨Nat.zero_le _, Nat.zero_le _⟩ dX5_readTest_3 (fun r1 N2 H locs hp w => ?_)
  obtain ⟨z3, rfl, bz3, hIN2, hFN2⟩ := hp
  have hGN2 := Fr.tr hF hFN2 (S := (fun b9 k9 => (b9 = 4 ∧ k9 = 3) ∨ (b9 = 4 ∧ k9 = 4) ∨ (b9 = 4 ∧ k9 = 5) ∨ b9 = (u1 + 1))) (fun b k h => by (try dsimp only at h ⊢); (repeat' (refine Or.elim h ?_ ?_ <;> clear h <;> intro h)); all_goals first | (obtain ⟨rfl, rfl⟩ := h; decide) | (subst h; decide) | omega)
  refine z_if_eq (tgt := 17) hx hb (by omega) dX5_readTest_6 (by decide) (fun c4 => ?_) (fun c4 => ?_)
  · refine lv_aload_n hx hb dX5_readTest_17 rfl (lv_at hl 0 rfl) ?_
    refine lv_aload_n hx hb dX5_readTest_18 rfl (lv_at hl 1 rfl) ?_
    refine lv_iconst (v := zI 5) hx hb dX5_readTest_19 rfl ?_
    refine va_ldcS F.1 F.2.1 F.2.2.2.1 (show vk_R "ToneLines$RuleReader" 107 "begin end heavy many float before after" (D.2 200 10) s from (w.2.2.2.2.1 10 (by decide)).1) dX5_readTest_20 ?_
    refine k_Vi F w (As := [.ref (B + u1), .int (zI 5), .ref (D.2 200 10)]) (rest := []) (a := 4) (kd_lt (a := 4) (show kd 4 = (5, 0, 0) from rfl) (by decide)) (sh_5 rfl _ _) rfl (q_X5_readChoice (u1 := u1) hku1 (x := 5) (by omega) (i9 := 10) (show 10 < NSL by decide)  hIN2) gv_X5_77 hv_X5_readChoice ⟨(Nat.le_of_ble_eq_true rfl), (Nat.le_of_ble_eq_true rfl)⟩ hl.1 rfl (Nat.le_of_ble_eq_true rfl) ⟨Nat.zero_le _, Nat.zero_le _⟩ dX5_readTest_22 (fun r5 N6 H locs hp w => ?_)
    obtain ⟨z7, rfl, bz7, hIN6, hFN6⟩ := hp
    have hGN6 := Fr.tr hGN2 hFN6 (S := (fun b9 k9 => (b9 = 4 ∧ k9 = 3) ∨ (b9 = 4 ∧ k9 = 4) ∨ (b9 = 4 ∧ k9 = 5) ∨ b9 = (u1 + 1))) (fun b k h => by (try dsimp only at h ⊢); (repeat' (refine Or.elim h ?_ ?_ <;> clear h <;> intro h)); all_goals first | (obtain ⟨rfl, rfl⟩ := h; decide) | (subst h; decide) | omega)
    refine z_if_ne (tgt := 30) hx hb (by omega) dX5_readTest_25 (by decide) (fun c8 => ?_) (fun c8 => ?_)
    · refine lv_aload_n hx hb dX5_readTest_30 rfl (lv_at hl 1 rfl) ?_
      refine f_4_0 F w (a := u1) hku1 tb_489 dX5_readTest_31 ?_
      refine lv_iconst (v := zI 5) hx hb dX5_readTest_34 rfl ?_
      refine g_iald F w (a := (u1 + 1)) (iv_u hku1).2.2 (j := 5) ⟨by decide, by decide⟩ (by omega) dX5_readTest_35 ?_
      obtain ⟨z9, bz9, ez9⟩ := Inv.ld (k := 5) hIN6 (iv_up hku1 _) (by have := lt_u hku1; omega)
      refine r_val ez9 ?_
      refine lv_istore_n (lv' := [(2, .int (zI z9)), (0, .ref (B + 4)), (1, .ref (B + u1))]) hx hb dX5_readTest_36 rfl hl (by decide) rfl (fun ls hl => ?_)
      refine lv_iload_n hx hb dX5_readTest_37 rfl (lv_at hl 0 rfl) ?_
      refine lv_iconst (v := zI 5) hx hb dX5_readTest_38 rfl ?_
      refine z_icmp_eq (tgt := 48) hx hb (by omega) (by omega) dX5_readTest_39 (by decide) (fun c10 => ?_) (fun c10 => ?_)
      · refine lv_aload_n hx hb dX5_readTest_48 rfl (lv_at hl 1 rfl) ?_
        refine lv_aload_n hx hb dX5_readTest_49 rfl (lv_at hl 2 rfl) ?_
        refine lv_bipush (v := zI 7) hx hb dX5_readTest_50 (by decide) ?_
        refine va_ldcS F.1 F.2.1 F.2.2.2.1 (show vk_R "ToneLines$RuleReader" 99 "low mid high any" (D.2 200 5) s from (w.2.2.2.2.1 5 (by decide)).1) dX5_readTest_52 ?_
        refine k_Vi F w (As := [.ref (B + u1), .int (zI 7), .ref (D.2 200 5)]) (rest := []) (a := 4) (kd_lt (a := 4) (show kd 4 = (5, 0, 0) from rfl) (by decide)) (sh_5 rfl _ _) rfl (q_X5_readChoice (u1 := u1) hku1 (x := 7) (by omega) (i9 := 5) (show 5 < NSL by decide)  hIN6) gv_X5_77 hv_X5_readChoice ⟨(Nat.le_of_ble_eq_true rfl), (Nat.le_of_ble_eq_true rfl)⟩ hl.1 rfl (Nat.le_of_ble_eq_true rfl) ⟨Nat.zero_le _, Nat.zero_le _⟩ dX5_readTest_54 (fun r11 N12 H locs hp w => ?_)
        obtain ⟨z13, rfl, bz13, hIN12, hFN12⟩ := hp
        have hGN12 := Fr.tr hGN6 hFN12 (S := (fun b9 k9 => (b9 = 4 ∧ k9 = 3) ∨ (b9 = 4 ∧ k9 = 4) ∨ (b9 = 4 ∧ k9 = 5) ∨ b9 = (u1 + 1))) (fun b k h => by (try dsimp only at h ⊢); (repeat' (refine Or.elim h ?_ ?_ <;> clear h <;> intro h)); all_goals first | (obtain ⟨rfl, rfl⟩ := h; decide) | (subst h; decide) | omega)
        refine z_if_eq (tgt := 64) hx hb (by omega) dX5_readTest_57 (by decide) (fun c14 => ?_) (fun c14 => ?_)
        · refine lv_iconst (v := zI 0) hx hb dX5_readTest_64 rfl ?_
          rw [hQ]
          exact e_z F w hr hlocks (nar_z (by omega)) ⟨_, rfl, (by omega), hIN12, hGN12⟩ dX5_readTest_65
        · refine lv_iconst (v := zI 1) hx hb dX5_readTest_60 rfl ?_
          refine lv_goto (tgt := 65) hx hb dX5_readTest_61 (by decide) ?_
          rw [hQ]
          exact e_z F w hr hlocks (nar_z (by omega)) ⟨_, rfl, (by omega), hIN12, hGN12⟩ dX5_readTest_65
      · refine lv_iload_n hx hb dX5_readTest_42 rfl (lv_at hl 0 rfl) ?_
        refine lv_bipush (v := zI 6) hx hb dX5_readTest_43 (by decide) ?_
        refine z_icmp_ne (tgt := 60) hx hb (by omega) (by omega) dX5_readTest_45 (by decide) (fun c15 => ?_) (fun c15 => ?_)
        · refine lv_iconst (v := zI 1) hx hb dX5_readTest_60 rfl ?_
          refine lv_goto (tgt := 65) hx hb dX5_readTest_61 (by decide) ?_
          rw [hQ]
          exact e_z F w hr hlocks (nar_z (by omega)) ⟨_, rfl, (by omega), hIN6, hGN6⟩ dX5_readTest_65
        · refine lv_aload_n hx hb dX5_readTest_48 rfl (lv_at hl 1 rfl) ?_
          refine lv_aload_n hx hb dX5_readTest_49 rfl (lv_at hl 2 rfl) ?_
          refine lv_bipush (v := zI 7) hx hb dX5_readTest_50 (by decide) ?_
          refine va_ldcS F.1 F.2.1 F.2.2.2.1 (show vk_R "ToneLines$RuleReader" 99 "low mid high any" (D.2 200 5) s from (w.2.2.2.2.1 5 (by decide)).1) dX5_readTest_52 ?_
          refine k_Vi F w (As := [.ref (B + u1), .int (zI 7), .ref (D.2 200 5)]) (rest := []) (a := 4) (kd_lt (a := 4) (show kd 4 = (5, 0, 0) from rfl) (by decide)) (sh_5 rfl _ _) rfl (q_X5_readChoice (u1 := u1) hku1 (x := 7) (by omega) (i9 := 5) (show 5 < NSL by decide)  hIN6) gv_X5_77 hv_X5_readChoice ⟨(Nat.le_of_ble_eq_true rfl), (Nat.le_of_ble_eq_true rfl)⟩ hl.1 rfl (Nat.le_of_ble_eq_true rfl) ⟨Nat.zero_le _, Nat.zero_le _⟩ dX5_readTest_54 (fun r16 N17 H locs hp w => ?_)
          obtain ⟨z18, rfl, bz18, hIN17, hFN17⟩ := hp
          have hGN17 := Fr.tr hGN6 hFN17 (S := (fun b9 k9 => (b9 = 4 ∧ k9 = 3) ∨ (b9 = 4 ∧ k9 = 4) ∨ (b9 = 4 ∧ k9 = 5) ∨ b9 = (u1 + 1))) (fun b k h => by (try dsimp only at h ⊢); (repeat' (refine Or.elim h ?_ ?_ <;> clear h <;> intro h)); all_goals first | (obtain ⟨rfl, rfl⟩ := h; decide) | (subst h; decide) | omega)
          refine z_if_eq (tgt := 64) hx hb (by omega) dX5_readTest_57 (by decide) (fun c19 => ?_) (fun c19 => ?_)
          · refine lv_iconst (v := zI 0) hx hb dX5_readTest_64 rfl ?_
            rw [hQ]
            exact e_z F w hr hlocks (nar_z (by omega)) ⟨_, rfl, (by omega), hIN17, hGN17⟩ dX5_readTest_65
          · refine lv_iconst (v := zI 1) hx hb dX5_readTest_60 rfl ?_
            refine lv_goto (tgt := 65) hx hb dX5_readTest_61 (by decide) ?_
            rw [hQ]
            exact e_z F w hr hlocks (nar_z (by omega)) ⟨_, rfl, (by omega), hIN17, hGN17⟩ dX5_readTest_65
    · refine lv_iconst (v := zI 0) hx hb dX5_readTest_28 rfl ?_
      rw [hQ]
      exact e_z F w hr hlocks (nar_z (by omega)) ⟨_, rfl, (by omega), hIN6, hGN6⟩ dX5_readTest_29
  · refine lv_aload_n hx hb dX5_readTest_9 rfl (lv_at hl 1 rfl) ?_
    refine f_4_0 F w (a := u1) hku1 tb_489 dX5_readTest_10 ?_
    refine lv_bipush (v := zI 6) hx hb dX5_readTest_13 (by decide) ?_
    refine lv_iconst (v := zI 1) hx hb dX5_readTest_15 rfl ?_
    refine g_iast F w (a := (u1 + 1)) (iv_u hku1).2.2 (j := 6) ⟨by decide, by decide⟩ (by omega) dX5_readTest_16 (fun H locs w => ?_)
    refine lv_aload_n hx hb dX5_readTest_17 rfl (lv_at hl 0 rfl) ?_
    refine lv_aload_n hx hb dX5_readTest_18 rfl (lv_at hl 1 rfl) ?_
    refine lv_iconst (v := zI 5) hx hb dX5_readTest_19 rfl ?_
    refine va_ldcS F.1 F.2.1 F.2.2.2.1 (show vk_R "ToneLines$RuleReader" 107 "begin end heavy many float before after" (D.2 200 10) s from (w.2.2.2.2.1 10 (by decide)).1) dX5_readTest_20 ?_
    refine k_Vi F w (As := [.ref (B + u1), .int (zI 5), .ref (D.2 200 10)]) (rest := []) (a := 4) (kd_lt (a := 4) (show kd 4 = (5, 0, 0) from rfl) (by decide)) (sh_5 rfl _ _) rfl (q_X5_readChoice (u1 := u1) hku1 (x := 5) (by omega) (i9 := 10) (show 10 < NSL by decide)  (Inv.to hIN2 (a := (u1 + 1)) (k := 6) (x := 1) (iv_up hku1 _) (by omega))) gv_X5_77 hv_X5_readChoice ⟨(Nat.le_of_ble_eq_true rfl), (Nat.le_of_ble_eq_true rfl)⟩ hl.1 rfl (Nat.le_of_ble_eq_true rfl) ⟨Nat.zero_le _, Nat.zero_le _⟩ dX5_readTest_22 (fun r20 N21 H locs hp w => ?_)
    obtain ⟨z22, rfl, bz22, hIN21, hFN21⟩ := hp
    have hGN21 := Fr.tr (Fr.to hGN2 (by first | omega | (dsimp only; first | done | omega))) hFN21 (S := (fun b9 k9 => (b9 = 4 ∧ k9 = 3) ∨ (b9 = 4 ∧ k9 = 4) ∨ (b9 = 4 ∧ k9 = 5) ∨ b9 = (u1 + 1))) (fun b k h => by (try dsimp only at h ⊢); (repeat' (refine Or.elim h ?_ ?_ <;> clear h <;> intro h)); all_goals first | (obtain ⟨rfl, rfl⟩ := h; decide) | (subst h; decide) | omega)
    refine z_if_ne (tgt := 30) hx hb (by omega) dX5_readTest_25 (by decide) (fun c23 => ?_) (fun c23 => ?_)
    · refine lv_aload_n hx hb dX5_readTest_30 rfl (lv_at hl 1 rfl) ?_
      refine f_4_0 F w (a := u1) hku1 tb_489 dX5_readTest_31 ?_
      refine lv_iconst (v := zI 5) hx hb dX5_readTest_34 rfl ?_
      refine g_iald F w (a := (u1 + 1)) (iv_u hku1).2.2 (j := 5) ⟨by decide, by decide⟩ (by omega) dX5_readTest_35 ?_
      obtain ⟨z24, bz24, ez24⟩ := Inv.ld (k := 5) hIN21 (iv_up hku1 _) (by have := lt_u hku1; omega)
      refine r_val ez24 ?_
      refine lv_istore_n (lv' := [(2, .int (zI z24)), (0, .ref (B + 4)), (1, .ref (B + u1))]) hx hb dX5_readTest_36 rfl hl (by decide) rfl (fun ls hl => ?_)
      refine lv_iload_n hx hb dX5_readTest_37 rfl (lv_at hl 0 rfl) ?_
      refine lv_iconst (v := zI 5) hx hb dX5_readTest_38 rfl ?_
      refine z_icmp_eq (tgt := 48) hx hb (by omega) (by omega) dX5_readTest_39 (by decide) (fun c25 => ?_) (fun c25 => ?_)
      · refine lv_aload_n hx hb dX5_readTest_48 rfl (lv_at hl 1 rfl) ?_
        refine lv_aload_n hx hb dX5_readTest_49 rfl (lv_at hl 2 rfl) ?_
        refine lv_bipush (v := zI 7) hx hb dX5_readTest_50 (by decide) ?_
        refine va_ldcS F.1 F.2.1 F.2.2.2.1 (show vk_R "ToneLines$RuleReader" 99 "low mid high any" (D.2 200 5) s from (w.2.2.2.2.1 5 (by decide)).1) dX5_readTest_52 ?_
        refine k_Vi F w (As := [.ref (B + u1), .int (zI 7), .ref (D.2 200 5)]) (rest := []) (a := 4) (kd_lt (a := 4) (show kd 4 = (5, 0, 0) from rfl) (by decide)) (sh_5 rfl _ _) rfl (q_X5_readChoice (u1 := u1) hku1 (x := 7) (by omega) (i9 := 5) (show 5 < NSL by decide)  hIN21) gv_X5_77 hv_X5_readChoice ⟨(Nat.le_of_ble_eq_true rfl), (Nat.le_of_ble_eq_true rfl)⟩ hl.1 rfl (Nat.le_of_ble_eq_true rfl) ⟨Nat.zero_le _, Nat.zero_le _⟩ dX5_readTest_54 (fun r26 N27 H locs hp w => ?_)
        obtain ⟨z28, rfl, bz28, hIN27, hFN27⟩ := hp
        have hGN27 := Fr.tr hGN21 hFN27 (S := (fun b9 k9 => (b9 = 4 ∧ k9 = 3) ∨ (b9 = 4 ∧ k9 = 4) ∨ (b9 = 4 ∧ k9 = 5) ∨ b9 = (u1 + 1))) (fun b k h => by (try dsimp only at h ⊢); (repeat' (refine Or.elim h ?_ ?_ <;> clear h <;> intro h)); all_goals first | (obtain ⟨rfl, rfl⟩ := h; decide) | (subst h; decide) | omega)
        refine z_if_eq (tgt := 64) hx hb (by omega) dX5_readTest_57 (by decide) (fun c29 => ?_) (fun c29 => ?_)
        · refine lv_iconst (v := zI 0) hx hb dX5_readTest_64 rfl ?_
          rw [hQ]
          exact e_z F w hr hlocks (nar_z (by omega)) ⟨_, rfl, (by omega), hIN27, hGN27⟩ dX5_readTest_65
        · refine lv_iconst (v := zI 1) hx hb dX5_readTest_60 rfl ?_
          refine lv_goto (tgt := 65) hx hb dX5_readTest_61 (by decide) ?_
          rw [hQ]
          exact e_z F w hr hlocks (nar_z (by omega)) ⟨_, rfl, (by omega), hIN27, hGN27⟩ dX5_readTest_65
      · refine lv_iload_n hx hb dX5_readTest_42 rfl (lv_at hl 0 rfl) ?_
        refine lv_bipush (v := zI 6) hx hb dX5_readTest_43 (by decide) ?_
        refine z_icmp_ne (tgt := 60) hx hb (by omega) (by omega) dX5_readTest_45 (by decide) (fun c30 => ?_) (fun c30 => ?_)
        · refine lv_iconst (v := zI 1) hx hb dX5_readTest_60 rfl ?_
          refine lv_goto (tgt := 65) hx hb dX5_readTest_61 (by decide) ?_
          rw [hQ]
          exact e_z F w hr hlocks (nar_z (by omega)) ⟨_, rfl, (by omega), hIN21, hGN21⟩ dX5_readTest_65
        · refine lv_aload_n hx hb dX5_readTest_48 rfl (lv_at hl 1 rfl) ?_
          refine lv_aload_n hx hb dX5_readTest_49 rfl (lv_at hl 2 rfl) ?_
          refine lv_bipush (v := zI 7) hx hb dX5_readTest_50 (by decide) ?_
          refine va_ldcS F.1 F.2.1 F.2.2.2.1 (show vk_R "ToneLines$RuleReader" 99 "low mid high any" (D.2 200 5) s from (w.2.2.2.2.1 5 (by decide)).1) dX5_readTest_52 ?_
          refine k_Vi F w (As := [.ref (B + u1), .int (zI 7), .ref (D.2 200 5)]) (rest := []) (a := 4) (kd_lt (a := 4) (show kd 4 = (5, 0, 0) from rfl) (by decide)) (sh_5 rfl _ _) rfl (q_X5_readChoice (u1 := u1) hku1 (x := 7) (by omega) (i9 := 5) (show 5 < NSL by decide)  hIN21) gv_X5_77 hv_X5_readChoice ⟨(Nat.le_of_ble_eq_true rfl), (Nat.le_of_ble_eq_true rfl)⟩ hl.1 rfl (Nat.le_of_ble_eq_true rfl) ⟨Nat.zero_le _, Nat.zero_le _⟩ dX5_readTest_54 (fun r31 N32 H locs hp w => ?_)
          obtain ⟨z33, rfl, bz33, hIN32, hFN32⟩ := hp
          have hGN32 := Fr.tr hGN21 hFN32 (S := (fun b9 k9 => (b9 = 4 ∧ k9 = 3) ∨ (b9 = 4 ∧ k9 = 4) ∨ (b9 = 4 ∧ k9 = 5) ∨ b9 = (u1 + 1))) (fun b k h => by (try dsimp only at h ⊢); (repeat' (refine Or.elim h ?_ ?_ <;> clear h <;> intro h)); all_goals first | (obtain ⟨rfl, rfl⟩ := h; decide) | (subst h; decide) | omega)
          refine z_if_eq (tgt := 64) hx hb (by omega) dX5_readTest_57 (by decide) (fun c34 => ?_) (fun c34 => ?_)
          · refine lv_iconst (v := zI 0) hx hb dX5_readTest_64 rfl ?_
            rw [hQ]
            exact e_z F w hr hlocks (nar_z (by omega)) ⟨_, rfl, (by omega), hIN32, hGN32⟩ dX5_readTest_65
          · refine lv_iconst (v := zI 1) hx hb dX5_readTest_60 rfl ?_
            refine lv_goto (tgt := 65) hx hb dX5_readTest_61 (by decide) ?_
            rw [hQ]
            exact e_z F w hr hlocks (nar_z (by omega)) ⟨_, rfl, (by omega), hIN32, hGN32⟩ dX5_readTest_65
    · refine lv_iconst (v := zI 0) hx hb dX5_readTest_28 rfl ?_
      rw [hQ]
      exact e_z F w hr hlocks (nar_z (by omega)) ⟨_, rfl, (by omega), hIN21, hGN21⟩ dX5_readTest_29
theorem dX5_readParts_0 : decode cX5_readParts 0 = .ok (.aload_n 1, 1) := rdX5_readParts_0
theorem dX5_readParts_1 : decode cX5_readParts 1 = .ok (.getfield 71, 3) := rdX5_readParts_1
theorem dX5_readParts_4 : decode cX5_readParts 4 = .ok (.iconst 0, 1) := rdX5_readParts_4
theorem dX5_readParts_5 : decode cX5_readParts 5 = .ok (.iaload, 1) := rdX5_readParts_5
theorem dX5_readParts_6 : decode cX5_readParts 6 = .ok (.istore_n 2, 1) := rdX5_readParts_6
theorem dX5_readParts_7 : decode cX5_readParts 7 = .ok (.iload_n 2, 1) := rdX5_readParts_7
theorem dX5_readParts_8 : decode cX5_readParts 8 = .ok (.bipush 8, 2) := rdX5_readParts_8
theorem dX5_readParts_10 : decode cX5_readParts 10 = .ok (.if_icmp .ne 28, 3) := rdX5_readParts_10
theorem dX5_readParts_38 : decode cX5_readParts 38 = .ok (.iload_n 2, 1) := rdX5_readParts_38
theorem dX5_readParts_39 : decode cX5_readParts 39 = .ok (.ifCond .eq 27, 3) := rdX5_readParts_39
theorem dX5_readParts_66 : decode cX5_readParts 66 = .ok (.iload_n 2, 1) := rdX5_readParts_66
theorem dX5_readParts_67 : decode cX5_readParts 67 = .ok (.tableswitch 114 0 7 #[45, 54, 45, 79, 45, 114, 114, 88], 45) := rdX5_readParts_67
theorem dX5_readParts_112 : decode cX5_readParts 112 = .ok (.aload_n 0, 1) := rdX5_readParts_112
theorem dX5_readParts_113 : decode cX5_readParts 113 = .ok (.aload_n 1, 1) := rdX5_readParts_113
theorem dX5_readParts_114 : decode cX5_readParts 114 = .ok (.iconst 4, 1) := rdX5_readParts_114
theorem dX5_readParts_115 : decode cX5_readParts 115 = .ok (.ldc 101, 2) := rdX5_readParts_115
theorem dX5_readParts_117 : decode cX5_readParts 117 = .ok (.invokevirtual 77, 3) := rdX5_readParts_117
theorem dX5_readParts_120 : decode cX5_readParts 120 = .ok (.ireturn, 1) := rdX5_readParts_120
theorem dX5_readParts_181 : decode cX5_readParts 181 = .ok (.iconst 1, 1) := rdX5_readParts_181
theorem dX5_readParts_182 : decode cX5_readParts 182 = .ok (.ireturn, 1) := rdX5_readParts_182
theorem dX5_readParts_42 : decode cX5_readParts 42 = .ok (.aload_n 0, 1) := rdX5_readParts_42
theorem dX5_readParts_43 : decode cX5_readParts 43 = .ok (.aload_n 1, 1) := rdX5_readParts_43
theorem dX5_readParts_44 : decode cX5_readParts 44 = .ok (.iconst 2, 1) := rdX5_readParts_44
theorem dX5_readParts_45 : decode cX5_readParts 45 = .ok (.iload_n 2, 1) := rdX5_readParts_45
theorem dX5_readParts_46 : decode cX5_readParts 46 = .ok (.bipush 9, 2) := rdX5_readParts_46
theorem dX5_readParts_48 : decode cX5_readParts 48 = .ok (.if_icmp .ne 8, 3) := rdX5_readParts_48
theorem dX5_readParts_56 : decode cX5_readParts 56 = .ok (.ldc 99, 2) := rdX5_readParts_56
theorem dX5_readParts_58 : decode cX5_readParts 58 = .ok (.invokevirtual 77, 3) := rdX5_readParts_58
theorem dX5_readParts_61 : decode cX5_readParts 61 = .ok (.ifCond .ne 5, 3) := rdX5_readParts_61
theorem dX5_readParts_121 : decode cX5_readParts 121 = .ok (.aload_n 0, 1) := rdX5_readParts_121
theorem dX5_readParts_122 : decode cX5_readParts 122 = .ok (.aload_n 1, 1) := rdX5_readParts_122
theorem dX5_readParts_123 : decode cX5_readParts 123 = .ok (.iconst 4, 1) := rdX5_readParts_123
theorem dX5_readParts_124 : decode cX5_readParts 124 = .ok (.ldc 101, 2) := rdX5_readParts_124
theorem dX5_readParts_126 : decode cX5_readParts 126 = .ok (.invokevirtual 77, 3) := rdX5_readParts_126
theorem dX5_readParts_129 : decode cX5_readParts 129 = .ok (.ifCond .eq 15, 3) := rdX5_readParts_129
theorem dX5_readParts_144 : decode cX5_readParts 144 = .ok (.iconst 0, 1) := rdX5_readParts_144
theorem dX5_readParts_145 : decode cX5_readParts 145 = .ok (.ireturn, 1) := rdX5_readParts_145
theorem dX5_readParts_132 : decode cX5_readParts 132 = .ok (.aload_n 0, 1) := rdX5_readParts_132
theorem dX5_readParts_133 : decode cX5_readParts 133 = .ok (.aload_n 1, 1) := rdX5_readParts_133
theorem dX5_readParts_134 : decode cX5_readParts 134 = .ok (.invokevirtual 92, 3) := rdX5_readParts_134
theorem tk_X5_readTimes : Cond.code yX5_readTimes cX5_readTimes 3 (some .boolean) ∈ TB := rtk_X5_readTimes
theorem gc_X5_readTimes : GoodIn TB (cw yX5_readTimes cX5_readTimes 3 (some .boolean)) := goodIn_c2 tk_X5_readTimes
theorem tb_496 : Cond.methodLink "ToneLines$RuleReader" 92 yX5_readTimes ∈ TB := rtb_62
theorem tb_497 : Cond.instanceMethod yX5_readTimes ∈ TB := rtb_63
theorem tb_498 : Cond.selects "ToneLines$RuleReader" yX5_readTimes yX5_readTimes ∈ TB := rtb_64
theorem gv_X5_92 : GoodIn TB (wsV RX5 92 RX5 yX5_readTimes (cw yX5_readTimes cX5_readTimes 3 (some .boolean))) := goodIn_4 tb_496 tb_497 tb_498 tb_477 gc_X5_readTimes
theorem hv_X5_readTimes : yX5_readTimes.cls = RX5 ∧ yX5_readTimes.cls ≠ "java/lang/invoke/MethodHandle" ∧ yX5_readTimes.cls ≠ "java/lang/invoke/VarHandle" ∧ (parseMethodDescriptor yX5_readTimes.desc).map (fun d => d.parameters.length) = some 1 := rhv_X5_readTimes
theorem dX5_readParts_137 : decode cX5_readParts 137 = .ok (.ifCond .eq 7, 3) := rdX5_readParts_137
theorem dX5_readParts_140 : decode cX5_readParts 140 = .ok (.iconst 1, 1) := rdX5_readParts_140
theorem dX5_readParts_141 : decode cX5_readParts 141 = .ok (.goto 4, 3) := rdX5_readParts_141
theorem dX5_readParts_146 : decode cX5_readParts 146 = .ok (.aload_n 0, 1) := rdX5_readParts_146
theorem dX5_readParts_147 : decode cX5_readParts 147 = .ok (.aload_n 1, 1) := rdX5_readParts_147
theorem dX5_readParts_148 : decode cX5_readParts 148 = .ok (.iconst 4, 1) := rdX5_readParts_148
theorem dX5_readParts_149 : decode cX5_readParts 149 = .ok (.ldc 95, 2) := rdX5_readParts_149
theorem dX5_readParts_151 : decode cX5_readParts 151 = .ok (.invokevirtual 77, 3) := rdX5_readParts_151
theorem dX5_readParts_154 : decode cX5_readParts 154 = .ok (.ireturn, 1) := rdX5_readParts_154
theorem dX5_readParts_155 : decode cX5_readParts 155 = .ok (.aload_n 0, 1) := rdX5_readParts_155
theorem dX5_readParts_156 : decode cX5_readParts 156 = .ok (.ldc 103, 2) := rdX5_readParts_156
theorem dX5_readParts_158 : decode cX5_readParts 158 = .ok (.invokevirtual 67, 3) := rdX5_readParts_158
theorem dX5_readParts_161 : decode cX5_readParts 161 = .ok (.ifCond .eq 18, 3) := rdX5_readParts_161
theorem dX5_readParts_179 : decode cX5_readParts 179 = .ok (.iconst 0, 1) := rdX5_readParts_179
theorem dX5_readParts_180 : decode cX5_readParts 180 = .ok (.ireturn, 1) := rdX5_readParts_180
theorem dX5_readParts_164 : decode cX5_readParts 164 = .ok (.aload_n 0, 1) := rdX5_readParts_164
theorem dX5_readParts_165 : decode cX5_readParts 165 = .ok (.aload_n 1, 1) := rdX5_readParts_165
theorem dX5_readParts_166 : decode cX5_readParts 166 = .ok (.iconst 3, 1) := rdX5_readParts_166
theorem dX5_readParts_167 : decode cX5_readParts 167 = .ok (.ldc 97, 2) := rdX5_readParts_167
theorem dX5_readParts_169 : decode cX5_readParts 169 = .ok (.invokevirtual 77, 3) := rdX5_readParts_169
theorem dX5_readParts_172 : decode cX5_readParts 172 = .ok (.ifCond .eq 7, 3) := rdX5_readParts_172
theorem dX5_readParts_175 : decode cX5_readParts 175 = .ok (.iconst 1, 1) := rdX5_readParts_175
theorem dX5_readParts_176 : decode cX5_readParts 176 = .ok (.goto 4, 3) := rdX5_readParts_176
theorem dX5_readParts_64 : decode cX5_readParts 64 = .ok (.iconst 0, 1) := rdX5_readParts_64
theorem dX5_readParts_65 : decode cX5_readParts 65 = .ok (.ireturn, 1) := rdX5_readParts_65
theorem dX5_readParts_51 : decode cX5_readParts 51 = .ok (.ldc 97, 2) := rdX5_readParts_51
theorem dX5_readParts_53 : decode cX5_readParts 53 = .ok (.goto 5, 3) := rdX5_readParts_53
theorem dX5_readParts_13 : decode cX5_readParts 13 = .ok (.aload_n 0, 1) := rdX5_readParts_13
theorem dX5_readParts_14 : decode cX5_readParts 14 = .ok (.aload_n 1, 1) := rdX5_readParts_14
theorem dX5_readParts_15 : decode cX5_readParts 15 = .ok (.invokevirtual 92, 3) := rdX5_readParts_15
theorem dX5_readParts_18 : decode cX5_readParts 18 = .ok (.ifCond .eq 18, 3) := rdX5_readParts_18
theorem dX5_readParts_36 : decode cX5_readParts 36 = .ok (.iconst 0, 1) := rdX5_readParts_36
theorem dX5_readParts_37 : decode cX5_readParts 37 = .ok (.ireturn, 1) := rdX5_readParts_37
theorem dX5_readParts_21 : decode cX5_readParts 21 = .ok (.aload_n 0, 1) := rdX5_readParts_21
theorem dX5_readParts_22 : decode cX5_readParts 22 = .ok (.aload_n 1, 1) := rdX5_readParts_22
theorem dX5_readParts_23 : decode cX5_readParts 23 = .ok (.iconst 4, 1) := rdX5_readParts_23
theorem dX5_readParts_24 : decode cX5_readParts 24 = .ok (.ldc 95, 2) := rdX5_readParts_24
theorem dX5_readParts_26 : decode cX5_readParts 26 = .ok (.invokevirtual 77, 3) := rdX5_readParts_26
theorem dX5_readParts_29 : decode cX5_readParts 29 = .ok (.ifCond .eq 7, 3) := rdX5_readParts_29
theorem dX5_readParts_32 : decode cX5_readParts 32 = .ok (.iconst 1, 1) := rdX5_readParts_32
theorem dX5_readParts_33 : decode cX5_readParts 33 = .ok (.goto 4, 3) := rdX5_readParts_33
set_option maxRecDepth 4000 in
theorem q_X5_readParts {l : Launch} {D : va_G} {B : Nat} {cy : Nat → ClassId} {M : Mem} {u1 : Nat} (hku1 : kd u1 = (4, 0, 0)) (hI : Inv M) : Ci l D B cy yX5_readParts cX5_readParts 3 (some .boolean) 6 134 [.ref (B + 4), .ref (B + u1)] M (fun r M1 => ∃ z : Int, r = zI z ∧ (0 ≤ z ∧ z ≤ 1) ∧ Inv M1 ∧ Fr (fun b9 k9 => (b9 = 4 ∧ k9 = 3) ∨ (b9 = 4 ∧ k9 = 4) ∨ (b9 = 4 ∧ k9 = 5) ∨ b9 = (u1 + 1)) M1 M) := by
  refine s_anyQ (by decide) (Nat.le_of_ble_eq_true rfl) ?_
  intro p e s m args below meth c ls Q F hr hlocks hQ w hl
  have F : CallFix p m c cX5_readParts 3 s args TB RX5 := F
  have hx := F.1
  have hb := F.2.1
  have hl : lv_has ls 3 [(0, .ref (B + 4)), (1, .ref (B + u1))] := hl
  have hF : Fr (fun b9 k9 => (b9 = 4 ∧ k9 = 3) ∨ (b9 = 4 ∧ k9 = 4) ∨ (b9 = 4 ∧ k9 = 5) ∨ b9 = (u1 + 1)) M M := Fr.rf
  refine lv_aload_n hx hb dX5_readParts_0 rfl (lv_at hl 1 rfl) ?_
  refine f_4_0 F w (a := u1) hku1 tb_489 dX5_readParts_1 ?_
  refine lv_iconst (v := zI 0) hx hb dX5_readParts_4 rfl ?_
  refine g_iald F w (a := (u1 + 1)) (iv_u hku1).2.2 (j := 0) ⟨by decide, by decide⟩ (by omega) dX5_readParts_5 ?_
  obtain ⟨z1, bz1, ez1⟩ := Inv.ld (k := 0) hI (iv_up hku1 _) (by have := lt_u hku1; omega)
  refine r_val ez1 ?_
  refine lv_istore_n (lv' := [(2, .int (zI z1)), (0, .ref (B + 4)), (1, .ref (B + u1))]) hx hb dX5_readParts_6 rfl hl (by decide) rfl (fun ls hl => ?_)
  refine lv_iload_n hx hb dX5_readParts_7 rfl (lv_at hl 0 rfl) ?_
  refine lv_bipush (v := zI 8) hx hb dX5_readParts_8 (by decide) ?_
  refine z_icmp_ne (tgt := 38) hx hb (by omega) (by omega) dX5_readParts_10 (by decide) (fun c2 => ?_) (fun c2 => ?_)
  · refine lv_iload_n hx hb dX5_readParts_38 rfl (lv_at hl 0 rfl) ?_
    refine z_if_eq (tgt := 66) hx hb (by omega) dX5_readParts_39 (by decide) (fun c3 => ?_) (fun c3 => ?_)
    · refine lv_iload_n hx hb dX5_readParts_66 rfl (lv_at hl 0 rfl) ?_
      rcases (show z1 = 0 ∨ (z1 ≠ 0 ∧ z1 ≠ 1 ∧ z1 ≠ 2 ∧ z1 ≠ 3 ∧ z1 ≠ 4 ∧ z1 ≠ 5 ∧ z1 ≠ 6 ∧ z1 ≠ 7) by omega) with c4 | c4
      · refine r_val (v := zI 0) (congrArg zI c4) ?_
        refine lv_tableIn (tgt := 112) hx hb dX5_readParts_67 (by decide) (by decide) (off := 45) rfl (by decide) ?_
        refine lv_aload_n hx hb dX5_readParts_112 rfl (lv_at hl 1 rfl) ?_
        refine lv_aload_n hx hb dX5_readParts_113 rfl (lv_at hl 2 rfl) ?_
        refine lv_iconst (v := zI 4) hx hb dX5_readParts_114 rfl ?_
        refine va_ldcS F.1 F.2.1 F.2.2.2.1 (show vk_R "ToneLines$RuleReader" 101 "right left" (D.2 200 6) s from (w.2.2.2.2.1 6 (by decide)).1) dX5_readParts_115 ?_
        refine k_Vi F w (As := [.ref (B + u1), .int (zI 4), .ref (D.2 200 6)]) (rest := []) (a := 4) (kd_lt (a := 4) (show kd 4 = (5, 0, 0) from rfl) (by decide)) (sh_5 rfl _ _) rfl (q_X5_readChoice (u1 := u1) hku1 (x := 4) (by omega) (i9 := 6) (show 6 < NSL by decide)  hI) gv_X5_77 hv_X5_readChoice ⟨(Nat.le_of_ble_eq_true rfl), (Nat.le_of_ble_eq_true rfl)⟩ hl.1 rfl (Nat.le_of_ble_eq_true rfl) ⟨Nat.zero_le _, Nat.zero_le _⟩ dX5_readParts_117 (fun r5 N6 H locs hp w => ?_)
        obtain ⟨z7, rfl, bz7, hIN6, hFN6⟩ := hp
        have hGN6 := Fr.tr hF hFN6 (S := (fun b9 k9 => (b9 = 4 ∧ k9 = 3) ∨ (b9 = 4 ∧ k9 = 4) ∨ (b9 = 4 ∧ k9 = 5) ∨ b9 = (u1 + 1))) (fun b k h => by (try dsimp only at h ⊢); (repeat' (refine Or.elim h ?_ ?_ <;> clear h <;> intro h)); all_goals first | (obtain ⟨rfl, rfl⟩ := h; decide) | (subst h; decide) | omega)
        rw [hQ]
        exact e_z F w hr hlocks (nar_z (by omega)) ⟨_, rfl, (by omega), hIN6, hGN6⟩ dX5_readParts_120
      · refine lv_tableOut (tgt := 181) hx hb dX5_readParts_67 (by rw [zI_toInt (by omega)]; omega) (by decide) ?_
        refine lv_iconst (v := zI 1) hx hb dX5_readParts_181 rfl ?_
        rw [hQ]
        exact e_z F w hr hlocks (nar_z (by omega)) ⟨_, rfl, (by omega), hI, hF⟩ dX5_readParts_182
    · refine lv_aload_n hx hb dX5_readParts_42 rfl (lv_at hl 1 rfl) ?_
      refine lv_aload_n hx hb dX5_readParts_43 rfl (lv_at hl 2 rfl) ?_
      refine lv_iconst (v := zI 2) hx hb dX5_readParts_44 rfl ?_
      refine lv_iload_n hx hb dX5_readParts_45 rfl (lv_at hl 0 rfl) ?_
      refine lv_bipush (v := zI 9) hx hb dX5_readParts_46 (by decide) ?_
      refine z_icmp_ne (tgt := 56) hx hb (by omega) (by omega) dX5_readParts_48 (by decide) (fun c8 => ?_) (fun c8 => ?_)
      · refine va_ldcS F.1 F.2.1 F.2.2.2.1 (show vk_R "ToneLines$RuleReader" 99 "low mid high any" (D.2 200 5) s from (w.2.2.2.2.1 5 (by decide)).1) dX5_readParts_56 ?_
        refine k_Vi F w (As := [.ref (B + u1), .int (zI 2), .ref (D.2 200 5)]) (rest := []) (a := 4) (kd_lt (a := 4) (show kd 4 = (5, 0, 0) from rfl) (by decide)) (sh_5 rfl _ _) rfl (q_X5_readChoice (u1 := u1) hku1 (x := 2) (by omega) (i9 := 5) (show 5 < NSL by decide)  hI) gv_X5_77 hv_X5_readChoice ⟨(Nat.le_of_ble_eq_true rfl), (Nat.le_of_ble_eq_true rfl)⟩ hl.1 rfl (Nat.le_of_ble_eq_true rfl) ⟨Nat.zero_le _, Nat.zero_le _⟩ dX5_readParts_58 (fun r9 N10 H locs hp w => ?_)
        obtain ⟨z11, rfl, bz11, hIN10, hFN10⟩ := hp
        have hGN10 := Fr.tr hF hFN10 (S := (fun b9 k9 => (b9 = 4 ∧ k9 = 3) ∨ (b9 = 4 ∧ k9 = 4) ∨ (b9 = 4 ∧ k9 = 5) ∨ b9 = (u1 + 1))) (fun b k h => by (try dsimp only at h ⊢); (repeat' (refine Or.elim h ?_ ?_ <;> clear h <;> intro h)); all_goals first | (obtain ⟨rfl, rfl⟩ := h; decide) | (subst h; decide) | omega)
        refine z_if_ne (tgt := 66) hx hb (by omega) dX5_readParts_61 (by decide) (fun c12 => ?_) (fun c12 => ?_)
        · refine lv_iload_n hx hb dX5_readParts_66 rfl (lv_at hl 0 rfl) ?_
          rcases (show z1 = 0 ∨ z1 = 1 ∨ z1 = 2 ∨ z1 = 3 ∨ z1 = 4 ∨ z1 = 5 ∨ z1 = 6 ∨ z1 = 7 ∨ (z1 ≠ 0 ∧ z1 ≠ 1 ∧ z1 ≠ 2 ∧ z1 ≠ 3 ∧ z1 ≠ 4 ∧ z1 ≠ 5 ∧ z1 ≠ 6 ∧ z1 ≠ 7) by omega) with c13 | c13 | c13 | c13 | c13 | c13 | c13 | c13 | c13
          · refine r_val (v := zI 0) (congrArg zI c13) ?_
            refine lv_tableIn (tgt := 112) hx hb dX5_readParts_67 (by decide) (by decide) (off := 45) rfl (by decide) ?_
            refine lv_aload_n hx hb dX5_readParts_112 rfl (lv_at hl 1 rfl) ?_
            refine lv_aload_n hx hb dX5_readParts_113 rfl (lv_at hl 2 rfl) ?_
            refine lv_iconst (v := zI 4) hx hb dX5_readParts_114 rfl ?_
            refine va_ldcS F.1 F.2.1 F.2.2.2.1 (show vk_R "ToneLines$RuleReader" 101 "right left" (D.2 200 6) s from (w.2.2.2.2.1 6 (by decide)).1) dX5_readParts_115 ?_
            refine k_Vi F w (As := [.ref (B + u1), .int (zI 4), .ref (D.2 200 6)]) (rest := []) (a := 4) (kd_lt (a := 4) (show kd 4 = (5, 0, 0) from rfl) (by decide)) (sh_5 rfl _ _) rfl (q_X5_readChoice (u1 := u1) hku1 (x := 4) (by omega) (i9 := 6) (show 6 < NSL by decide)  hIN10) gv_X5_77 hv_X5_readChoice ⟨(Nat.le_of_ble_eq_true rfl), (Nat.le_of_ble_eq_true rfl)⟩ hl.1 rfl (Nat.le_of_ble_eq_true rfl) ⟨Nat.zero_le _, Nat.zero_le _⟩ dX5_readParts_117 (fun r14 N15 H locs hp w => ?_)
            obtain ⟨z16, rfl, bz16, hIN15, hFN15⟩ := hp
            have hGN15 := Fr.tr hGN10 hFN15 (S := (fun b9 k9 => (b9 = 4 ∧ k9 = 3) ∨ (b9 = 4 ∧ k9 = 4) ∨ (b9 = 4 ∧ k9 = 5) ∨ b9 = (u1 + 1))) (fun b k h => by (try dsimp only at h ⊢); (repeat' (refine Or.elim h ?_ ?_ <;> clear h <;> intro h)); all_goals first | (obtain ⟨rfl, rfl⟩ := h; decide) | (subst h; decide) | omega)
            rw [hQ]
            exact e_z F w hr hlocks (nar_z (by omega)) ⟨_, rfl, (by omega), hIN15, hGN15⟩ dX5_readParts_120
          · refine r_val (v := zI 1) (congrArg zI c13) ?_
            refine lv_tableIn (tgt := 121) hx hb dX5_readParts_67 (by decide) (by decide) (off := 54) rfl (by decide) ?_
            refine lv_aload_n hx hb dX5_readParts_121 rfl (lv_at hl 1 rfl) ?_
            refine lv_aload_n hx hb dX5_readParts_122 rfl (lv_at hl 2 rfl) ?_
            refine lv_iconst (v := zI 4) hx hb dX5_readParts_123 rfl ?_
            refine va_ldcS F.1 F.2.1 F.2.2.2.1 (show vk_R "ToneLines$RuleReader" 101 "right left" (D.2 200 6) s from (w.2.2.2.2.1 6 (by decide)).1) dX5_readParts_124 ?_
            refine k_Vi F w (As := [.ref (B + u1), .int (zI 4), .ref (D.2 200 6)]) (rest := []) (a := 4) (kd_lt (a := 4) (show kd 4 = (5, 0, 0) from rfl) (by decide)) (sh_5 rfl _ _) rfl (q_X5_readChoice (u1 := u1) hku1 (x := 4) (by omega) (i9 := 6) (show 6 < NSL by decide)  hIN10) gv_X5_77 hv_X5_readChoice ⟨(Nat.le_of_ble_eq_true rfl), (Nat.le_of_ble_eq_true rfl)⟩ hl.1 rfl (Nat.le_of_ble_eq_true rfl) ⟨Nat.zero_le _, Nat.zero_le _⟩ dX5_readParts_126 (fun r17 N18 H locs hp w => ?_)
            obtain ⟨z19, rfl, bz19, hIN18, hFN18⟩ := hp
            have hGN18 := Fr.tr hGN10 hFN18 (S := (fun b9 k9 => (b9 = 4 ∧ k9 = 3) ∨ (b9 = 4 ∧ k9 = 4) ∨ (b9 = 4 ∧ k9 = 5) ∨ b9 = (u1 + 1))) (fun b k h => by (try dsimp only at h ⊢); (repeat' (refine Or.elim h ?_ ?_ <;> clear h <;> intro h)); all_goals first | (obtain ⟨rfl, rfl⟩ := h; decide) | (subst h; decide) | omega)
            refine z_if_eq (tgt := 144) hx hb (by omega) dX5_readParts_129 (by decide) (fun c20 => ?_) (fun c20 => ?_)
            · refine lv_iconst (v := zI 0) hx hb dX5_readParts_144 rfl ?_
              rw [hQ]
              exact e_z F w hr hlocks (nar_z (by omega)) ⟨_, rfl, (by omega), hIN18, hGN18⟩ dX5_readParts_145
            · refine lv_aload_n hx hb dX5_readParts_132 rfl (lv_at hl 1 rfl) ?_
              refine lv_aload_n hx hb dX5_readParts_133 rfl (lv_at hl 2 rfl) ?_
              refine k_Vi F w (As := [.ref (B + u1)]) (rest := []) (a := 4) (kd_lt (a := 4) (show kd 4 = (5, 0, 0) from rfl) (by decide)) (sh_5 rfl _ _) rfl (q_X5_readTimes (u1 := u1) hku1  hIN18) gv_X5_92 hv_X5_readTimes ⟨(Nat.le_of_ble_eq_true rfl), (Nat.le_of_ble_eq_true rfl)⟩ hl.1 rfl (Nat.le_of_ble_eq_true rfl) ⟨Nat.zero_le _, Nat.zero_le _⟩ dX5_readParts_134 (fun r21 N22 H locs hp w => ?_)
              obtain ⟨z23, rfl, bz23, hIN22, hFN22⟩ := hp
              have hGN22 := Fr.tr hGN18 hFN22 (S := (fun b9 k9 => (b9 = 4 ∧ k9 = 3) ∨ (b9 = 4 ∧ k9 = 4) ∨ (b9 = 4 ∧ k9 = 5) ∨ b9 = (u1 + 1))) (fun b k h => by (try dsimp only at h ⊢); (repeat' (refine Or.elim h ?_ ?_ <;> clear h <;> intro h)); all_goals first | (obtain ⟨rfl, rfl⟩ := h; decide) | (subst h; decide) | omega)
              refine z_if_eq (tgt := 144) hx hb (by omega) dX5_readParts_137 (by decide) (fun c24 => ?_) (fun c24 => ?_)
              · refine lv_iconst (v := zI 0) hx hb dX5_readParts_144 rfl ?_
                rw [hQ]
                exact e_z F w hr hlocks (nar_z (by omega)) ⟨_, rfl, (by omega), hIN22, hGN22⟩ dX5_readParts_145
              · refine lv_iconst (v := zI 1) hx hb dX5_readParts_140 rfl ?_
                refine lv_goto (tgt := 145) hx hb dX5_readParts_141 (by decide) ?_
                rw [hQ]
                exact e_z F w hr hlocks (nar_z (by omega)) ⟨_, rfl, (by omega), hIN22, hGN22⟩ dX5_readParts_145
          · refine r_val (v := zI 2) (congrArg zI c13) ?_
            refine lv_tableIn (tgt := 112) hx hb dX5_readParts_67 (by decide) (by decide) (off := 45) rfl (by decide) ?_
            refine lv_aload_n hx hb dX5_readParts_112 rfl (lv_at hl 1 rfl) ?_
            refine lv_aload_n hx hb dX5_readParts_113 rfl (lv_at hl 2 rfl) ?_
            refine lv_iconst (v := zI 4) hx hb dX5_readParts_114 rfl ?_
            refine va_ldcS F.1 F.2.1 F.2.2.2.1 (show vk_R "ToneLines$RuleReader" 101 "right left" (D.2 200 6) s from (w.2.2.2.2.1 6 (by decide)).1) dX5_readParts_115 ?_
            refine k_Vi F w (As := [.ref (B + u1), .int (zI 4), .ref (D.2 200 6)]) (rest := []) (a := 4) (kd_lt (a := 4) (show kd 4 = (5, 0, 0) from rfl) (by decide)) (sh_5 rfl _ _) rfl (q_X5_readChoice (u1 := u1) hku1 (x := 4) (by omega) (i9 := 6) (show 6 < NSL by decide)  hIN10) gv_X5_77 hv_X5_readChoice ⟨(Nat.le_of_ble_eq_true rfl), (Nat.le_of_ble_eq_true rfl)⟩ hl.1 rfl (Nat.le_of_ble_eq_true rfl) ⟨Nat.zero_le _, Nat.zero_le _⟩ dX5_readParts_117 (fun r25 N26 H locs hp w => ?_)
            obtain ⟨z27, rfl, bz27, hIN26, hFN26⟩ := hp
            have hGN26 := Fr.tr hGN10 hFN26 (S := (fun b9 k9 => (b9 = 4 ∧ k9 = 3) ∨ (b9 = 4 ∧ k9 = 4) ∨ (b9 = 4 ∧ k9 = 5) ∨ b9 = (u1 + 1))) (fun b k h => by (try dsimp only at h ⊢); (repeat' (refine Or.elim h ?_ ?_ <;> clear h <;> intro h)); all_goals first | (obtain ⟨rfl, rfl⟩ := h; decide) | (subst h; decide) | omega)
            rw [hQ]
            exact e_z F w hr hlocks (nar_z (by omega)) ⟨_, rfl, (by omega), hIN26, hGN26⟩ dX5_readParts_120
          · refine r_val (v := zI 3) (congrArg zI c13) ?_
            refine lv_tableIn (tgt := 146) hx hb dX5_readParts_67 (by decide) (by decide) (off := 79) rfl (by decide) ?_
            refine lv_aload_n hx hb dX5_readParts_146 rfl (lv_at hl 1 rfl) ?_
            refine lv_aload_n hx hb dX5_readParts_147 rfl (lv_at hl 2 rfl) ?_
            refine lv_iconst (v := zI 4) hx hb dX5_readParts_148 rfl ?_
            refine va_ldcS F.1 F.2.1 F.2.2.2.1 (show vk_R "ToneLines$RuleReader" 95 "first last" (D.2 200 3) s from (w.2.2.2.2.1 3 (by decide)).1) dX5_readParts_149 ?_
            refine k_Vi F w (As := [.ref (B + u1), .int (zI 4), .ref (D.2 200 3)]) (rest := []) (a := 4) (kd_lt (a := 4) (show kd 4 = (5, 0, 0) from rfl) (by decide)) (sh_5 rfl _ _) rfl (q_X5_readChoice (u1 := u1) hku1 (x := 4) (by omega) (i9 := 3) (show 3 < NSL by decide)  hIN10) gv_X5_77 hv_X5_readChoice ⟨(Nat.le_of_ble_eq_true rfl), (Nat.le_of_ble_eq_true rfl)⟩ hl.1 rfl (Nat.le_of_ble_eq_true rfl) ⟨Nat.zero_le _, Nat.zero_le _⟩ dX5_readParts_151 (fun r28 N29 H locs hp w => ?_)
            obtain ⟨z30, rfl, bz30, hIN29, hFN29⟩ := hp
            have hGN29 := Fr.tr hGN10 hFN29 (S := (fun b9 k9 => (b9 = 4 ∧ k9 = 3) ∨ (b9 = 4 ∧ k9 = 4) ∨ (b9 = 4 ∧ k9 = 5) ∨ b9 = (u1 + 1))) (fun b k h => by (try dsimp only at h ⊢); (repeat' (refine Or.elim h ?_ ?_ <;> clear h <;> intro h)); all_goals first | (obtain ⟨rfl, rfl⟩ := h; decide) | (subst h; decide) | omega)
            rw [hQ]
            exact e_z F w hr hlocks (nar_z (by omega)) ⟨_, rfl, (by omega), hIN29, hGN29⟩ dX5_readParts_154
          · refine r_val (v := zI 4) (congrArg zI c13) ?_
            refine lv_tableIn (tgt := 112) hx hb dX5_readParts_67 (by decide) (by decide) (off := 45) rfl (by decide) ?_
            refine lv_aload_n hx hb dX5_readParts_112 rfl (lv_at hl 1 rfl) ?_
            refine lv_aload_n hx hb dX5_readParts_113 rfl (lv_at hl 2 rfl) ?_
            refine lv_iconst (v := zI 4) hx hb dX5_readParts_114 rfl ?_
            refine va_ldcS F.1 F.2.1 F.2.2.2.1 (show vk_R "ToneLines$RuleReader" 101 "right left" (D.2 200 6) s from (w.2.2.2.2.1 6 (by decide)).1) dX5_readParts_115 ?_
            refine k_Vi F w (As := [.ref (B + u1), .int (zI 4), .ref (D.2 200 6)]) (rest := []) (a := 4) (kd_lt (a := 4) (show kd 4 = (5, 0, 0) from rfl) (by decide)) (sh_5 rfl _ _) rfl (q_X5_readChoice (u1 := u1) hku1 (x := 4) (by omega) (i9 := 6) (show 6 < NSL by decide)  hIN10) gv_X5_77 hv_X5_readChoice ⟨(Nat.le_of_ble_eq_true rfl), (Nat.le_of_ble_eq_true rfl)⟩ hl.1 rfl (Nat.le_of_ble_eq_true rfl) ⟨Nat.zero_le _, Nat.zero_le _⟩ dX5_readParts_117 (fun r31 N32 H locs hp w => ?_)
            obtain ⟨z33, rfl, bz33, hIN32, hFN32⟩ := hp
            have hGN32 := Fr.tr hGN10 hFN32 (S := (fun b9 k9 => (b9 = 4 ∧ k9 = 3) ∨ (b9 = 4 ∧ k9 = 4) ∨ (b9 = 4 ∧ k9 = 5) ∨ b9 = (u1 + 1))) (fun b k h => by (try dsimp only at h ⊢); (repeat' (refine Or.elim h ?_ ?_ <;> clear h <;> intro h)); all_goals first | (obtain ⟨rfl, rfl⟩ := h; decide) | (subst h; decide) | omega)
            rw [hQ]
            exact e_z F w hr hlocks (nar_z (by omega)) ⟨_, rfl, (by omega), hIN32, hGN32⟩ dX5_readParts_120
          · refine r_val (v := zI 5) (congrArg zI c13) ?_
            refine lv_tableIn (tgt := 181) hx hb dX5_readParts_67 (by decide) (by decide) (off := 114) rfl (by decide) ?_
            refine lv_iconst (v := zI 1) hx hb dX5_readParts_181 rfl ?_
            rw [hQ]
            exact e_z F w hr hlocks (nar_z (by omega)) ⟨_, rfl, (by omega), hIN10, hGN10⟩ dX5_readParts_182
          · refine r_val (v := zI 6) (congrArg zI c13) ?_
            refine lv_tableIn (tgt := 181) hx hb dX5_readParts_67 (by decide) (by decide) (off := 114) rfl (by decide) ?_
            refine lv_iconst (v := zI 1) hx hb dX5_readParts_181 rfl ?_
            rw [hQ]
            exact e_z F w hr hlocks (nar_z (by omega)) ⟨_, rfl, (by omega), hIN10, hGN10⟩ dX5_readParts_182
          · refine r_val (v := zI 7) (congrArg zI c13) ?_
            refine lv_tableIn (tgt := 155) hx hb dX5_readParts_67 (by decide) (by decide) (off := 88) rfl (by decide) ?_
            refine lv_aload_n hx hb dX5_readParts_155 rfl (lv_at hl 1 rfl) ?_
            refine va_ldcS F.1 F.2.1 F.2.2.2.1 (show vk_R "ToneLines$RuleReader" 103 "to" (D.2 200 7) s from (w.2.2.2.2.1 7 (by decide)).1) dX5_readParts_156 ?_
            refine k_Vi F w (As := [.ref (D.2 200 7)]) (rest := []) (a := 4) (kd_lt (a := 4) (show kd 4 = (5, 0, 0) from rfl) (by decide)) (sh_5 rfl _ _) rfl (q_X5_readWord (i9 := 7) (show 7 < NSL by decide)  hIN10) gv_X5_67 hv_X5_readWord ⟨(Nat.le_of_ble_eq_true rfl), (Nat.le_of_ble_eq_true rfl)⟩ hl.1 rfl (Nat.le_of_ble_eq_true rfl) ⟨Nat.zero_le _, Nat.zero_le _⟩ dX5_readParts_158 (fun r34 N35 H locs hp w => ?_)
            obtain ⟨z36, rfl, bz36, hIN35, hFN35⟩ := hp
            have hGN35 := Fr.tr hGN10 hFN35 (S := (fun b9 k9 => (b9 = 4 ∧ k9 = 3) ∨ (b9 = 4 ∧ k9 = 4) ∨ (b9 = 4 ∧ k9 = 5) ∨ b9 = (u1 + 1))) (fun b k h => by (try dsimp only at h ⊢); (repeat' (refine Or.elim h ?_ ?_ <;> clear h <;> intro h)); all_goals first | (obtain ⟨rfl, rfl⟩ := h; decide) | (subst h; decide) | omega)
            refine z_if_eq (tgt := 179) hx hb (by omega) dX5_readParts_161 (by decide) (fun c37 => ?_) (fun c37 => ?_)
            · refine lv_iconst (v := zI 0) hx hb dX5_readParts_179 rfl ?_
              rw [hQ]
              exact e_z F w hr hlocks (nar_z (by omega)) ⟨_, rfl, (by omega), hIN35, hGN35⟩ dX5_readParts_180
            · refine lv_aload_n hx hb dX5_readParts_164 rfl (lv_at hl 1 rfl) ?_
              refine lv_aload_n hx hb dX5_readParts_165 rfl (lv_at hl 2 rfl) ?_
              refine lv_iconst (v := zI 3) hx hb dX5_readParts_166 rfl ?_
              refine va_ldcS F.1 F.2.1 F.2.2.2.1 (show vk_R "ToneLines$RuleReader" 97 "low mid high" (D.2 200 4) s from (w.2.2.2.2.1 4 (by decide)).1) dX5_readParts_167 ?_
              refine k_Vi F w (As := [.ref (B + u1), .int (zI 3), .ref (D.2 200 4)]) (rest := []) (a := 4) (kd_lt (a := 4) (show kd 4 = (5, 0, 0) from rfl) (by decide)) (sh_5 rfl _ _) rfl (q_X5_readChoice (u1 := u1) hku1 (x := 3) (by omega) (i9 := 4) (show 4 < NSL by decide)  hIN35) gv_X5_77 hv_X5_readChoice ⟨(Nat.le_of_ble_eq_true rfl), (Nat.le_of_ble_eq_true rfl)⟩ hl.1 rfl (Nat.le_of_ble_eq_true rfl) ⟨Nat.zero_le _, Nat.zero_le _⟩ dX5_readParts_169 (fun r38 N39 H locs hp w => ?_)
              obtain ⟨z40, rfl, bz40, hIN39, hFN39⟩ := hp
              have hGN39 := Fr.tr hGN35 hFN39 (S := (fun b9 k9 => (b9 = 4 ∧ k9 = 3) ∨ (b9 = 4 ∧ k9 = 4) ∨ (b9 = 4 ∧ k9 = 5) ∨ b9 = (u1 + 1))) (fun b k h => by (try dsimp only at h ⊢); (repeat' (refine Or.elim h ?_ ?_ <;> clear h <;> intro h)); all_goals first | (obtain ⟨rfl, rfl⟩ := h; decide) | (subst h; decide) | omega)
              refine z_if_eq (tgt := 179) hx hb (by omega) dX5_readParts_172 (by decide) (fun c41 => ?_) (fun c41 => ?_)
              · refine lv_iconst (v := zI 0) hx hb dX5_readParts_179 rfl ?_
                rw [hQ]
                exact e_z F w hr hlocks (nar_z (by omega)) ⟨_, rfl, (by omega), hIN39, hGN39⟩ dX5_readParts_180
              · refine lv_iconst (v := zI 1) hx hb dX5_readParts_175 rfl ?_
                refine lv_goto (tgt := 180) hx hb dX5_readParts_176 (by decide) ?_
                rw [hQ]
                exact e_z F w hr hlocks (nar_z (by omega)) ⟨_, rfl, (by omega), hIN39, hGN39⟩ dX5_readParts_180
          · refine lv_tableOut (tgt := 181) hx hb dX5_readParts_67 (by rw [zI_toInt (by omega)]; omega) (by decide) ?_
            refine lv_iconst (v := zI 1) hx hb dX5_readParts_181 rfl ?_
            rw [hQ]
            exact e_z F w hr hlocks (nar_z (by omega)) ⟨_, rfl, (by omega), hIN10, hGN10⟩ dX5_readParts_182
        · refine lv_iconst (v := zI 0) hx hb dX5_readParts_64 rfl ?_
          rw [hQ]
          exact e_z F w hr hlocks (nar_z (by omega)) ⟨_, rfl, (by omega), hIN10, hGN10⟩ dX5_readParts_65
      · refine va_ldcS F.1 F.2.1 F.2.2.2.1 (show vk_R "ToneLines$RuleReader" 97 "low mid high" (D.2 200 4) s from (w.2.2.2.2.1 4 (by decide)).1) dX5_readParts_51 ?_
        refine lv_goto (tgt := 58) hx hb dX5_readParts_53 (by decide) ?_
        refine k_Vi F w (As := [.ref (B + u1), .int (zI 2), .ref (D.2 200 4)]) (rest := []) (a := 4) (kd_lt (a := 4) (show kd 4 = (5, 0, 0) from rfl) (by decide)) (sh_5 rfl _ _) rfl (q_X5_readChoice (u1 := u1) hku1 (x := 2) (by omega) (i9 := 4) (show 4 < NSL by decide)  hI) gv_X5_77 hv_X5_readChoice ⟨(Nat.le_of_ble_eq_true rfl), (Nat.le_of_ble_eq_true rfl)⟩ hl.1 rfl (Nat.le_of_ble_eq_true rfl) ⟨Nat.zero_le _, Nat.zero_le _⟩ dX5_readParts_58 (fun r42 N43 H locs hp w => ?_)
        obtain ⟨z44, rfl, bz44, hIN43, hFN43⟩ := hp
        have hGN43 := Fr.tr hF hFN43 (S := (fun b9 k9 => (b9 = 4 ∧ k9 = 3) ∨ (b9 = 4 ∧ k9 = 4) ∨ (b9 = 4 ∧ k9 = 5) ∨ b9 = (u1 + 1))) (fun b k h => by (try dsimp only at h ⊢); (repeat' (refine Or.elim h ?_ ?_ <;> clear h <;> intro h)); all_goals first | (obtain ⟨rfl, rfl⟩ := h; decide) | (subst h; decide) | omega)
        refine z_if_ne (tgt := 66) hx hb (by omega) dX5_readParts_61 (by decide) (fun c45 => ?_) (fun c45 => ?_)
        · refine lv_iload_n hx hb dX5_readParts_66 rfl (lv_at hl 0 rfl) ?_
          rcases (show (z1 ≠ 0 ∧ z1 ≠ 1 ∧ z1 ≠ 2 ∧ z1 ≠ 3 ∧ z1 ≠ 4 ∧ z1 ≠ 5 ∧ z1 ≠ 6 ∧ z1 ≠ 7) by omega) with c46
          · refine lv_tableOut (tgt := 181) hx hb dX5_readParts_67 (by rw [zI_toInt (by omega)]; omega) (by decide) ?_
            refine lv_iconst (v := zI 1) hx hb dX5_readParts_181 rfl ?_
            rw [hQ]
            exact e_z F w hr hlocks (nar_z (by omega)) ⟨_, rfl, (by omega), hIN43, hGN43⟩ dX5_readParts_182
        · refine lv_iconst (v := zI 0) hx hb dX5_readParts_64 rfl ?_
          rw [hQ]
          exact e_z F w hr hlocks (nar_z (by omega)) ⟨_, rfl, (by omega), hIN43, hGN43⟩ dX5_readParts_65
  · refine lv_aload_n hx hb dX5_readParts_13 rfl (lv_at hl 1 rfl) ?_
    refine lv_aload_n hx hb dX5_readParts_14 rfl (lv_at hl 2 rfl) ?_
    refine k_Vi F w (As := [.ref (B + u1)]) (rest := []) (a := 4) (kd_lt (a := 4) (show kd 4 = (5, 0, 0) from rfl) (by decide)) (sh_5 rfl _ _) rfl (q_X5_readTimes (u1 := u1) hku1  hI) gv_X5_92 hv_X5_readTimes ⟨(Nat.le_of_ble_eq_true rfl), (Nat.le_of_ble_eq_true rfl)⟩ hl.1 rfl (Nat.le_of_ble_eq_true rfl) ⟨Nat.zero_le _, Nat.zero_le _⟩ dX5_readParts_15 (fun r47 N48 H locs hp w => ?_)
    obtain ⟨z49, rfl, bz49, hIN48, hFN48⟩ := hp
    have hGN48 := Fr.tr hF hFN48 (S := (fun b9 k9 => (b9 = 4 ∧ k9 = 3) ∨ (b9 = 4 ∧ k9 = 4) ∨ (b9 = 4 ∧ k9 = 5) ∨ b9 = (u1 + 1))) (fun b k h => by (try dsimp only at h ⊢); (repeat' (refine Or.elim h ?_ ?_ <;> clear h <;> intro h)); all_goals first | (obtain ⟨rfl, rfl⟩ := h; decide) | (subst h; decide) | omega)
    refine z_if_eq (tgt := 36) hx hb (by omega) dX5_readParts_18 (by decide) (fun c50 => ?_) (fun c50 => ?_)
    · refine lv_iconst (v := zI 0) hx hb dX5_readParts_36 rfl ?_
      rw [hQ]
      exact e_z F w hr hlocks (nar_z (by omega)) ⟨_, rfl, (by omega), hIN48, hGN48⟩ dX5_readParts_37
    · refine lv_aload_n hx hb dX5_readParts_21 rfl (lv_at hl 1 rfl) ?_
      refine lv_aload_n hx hb dX5_readParts_22 rfl (lv_at hl 2 rfl) ?_
      refine lv_iconst (v := zI 4) hx hb dX5_readParts_23 rfl ?_
      refine va_ldcS F.1 F.2.1 F.2.2.2.1 (show vk_R "ToneLines$RuleReader" 95 "first last" (D.2 200 3) s from (w.2.2.2.2.1 3 (by decide)).1) dX5_readParts_24 ?_
      refine k_Vi F w (As := [.ref (B + u1), .int (zI 4), .ref (D.2 200 3)]) (rest := []) (a := 4) (kd_lt (a := 4) (show kd 4 = (5, 0, 0) from rfl) (by decide)) (sh_5 rfl _ _) rfl (q_X5_readChoice (u1 := u1) hku1 (x := 4) (by omega) (i9 := 3) (show 3 < NSL by decide)  hIN48) gv_X5_77 hv_X5_readChoice ⟨(Nat.le_of_ble_eq_true rfl), (Nat.le_of_ble_eq_true rfl)⟩ hl.1 rfl (Nat.le_of_ble_eq_true rfl) ⟨Nat.zero_le _, Nat.zero_le _⟩ dX5_readParts_26 (fun r51 N52 H locs hp w => ?_)
      obtain ⟨z53, rfl, bz53, hIN52, hFN52⟩ := hp
      have hGN52 := Fr.tr hGN48 hFN52 (S := (fun b9 k9 => (b9 = 4 ∧ k9 = 3) ∨ (b9 = 4 ∧ k9 = 4) ∨ (b9 = 4 ∧ k9 = 5) ∨ b9 = (u1 + 1))) (fun b k h => by (try dsimp only at h ⊢); (repeat' (refine Or.elim h ?_ ?_ <;> clear h <;> intro h)); all_goals first | (obtain ⟨rfl, rfl⟩ := h; decide) | (subst h; decide) | omega)
      refine z_if_eq (tgt := 36) hx hb (by omega) dX5_readParts_29 (by decide) (fun c54 => ?_) (fun c54 => ?_)
      · refine lv_iconst (v := zI 0) hx hb dX5_readParts_36 rfl ?_
        rw [hQ]
        exact e_z F w hr hlocks (nar_z (by omega)) ⟨_, rfl, (by omega), hIN52, hGN52⟩ dX5_readParts_37
      · refine lv_iconst (v := zI 1) hx hb dX5_readParts_32 rfl ?_
        refine lv_goto (tgt := 37) hx hb dX5_readParts_33 (by decide) ?_
        rw [hQ]
        exact e_z F w hr hlocks (nar_z (by omega)) ⟨_, rfl, (by omega), hIN52, hGN52⟩ dX5_readParts_37
theorem dX5_readRule_0 : decode cX5_readRule 0 = .ok (.aload_n 1, 1) := rdX5_readRule_0
theorem dX5_readRule_1 : decode cX5_readRule 1 = .ok (.invokevirtual 62, 3) := rdX5_readRule_1
theorem tk_X4_clear : Cond.code yX4_clear cX4_clear 1 none ∈ TB := rtk_X4_clear
theorem gc_X4_clear : GoodIn TB (cw yX4_clear cX4_clear 1 none) := goodIn_c2 tk_X4_clear
theorem tb_499 : Cond.methodLink "ToneLines$RuleReader" 62 yX4_clear ∈ TB := rtb_65
theorem tb_500 : Cond.instanceMethod yX4_clear ∈ TB := rtb_66
theorem tb_501 : Cond.selects "ToneLines$Rule" yX4_clear yX4_clear ∈ TB := rtb_67
theorem gv_X5_62 : GoodIn TB (wsV RX5 62 RX4 yX4_clear (cw yX4_clear cX4_clear 1 none)) := goodIn_4 tb_499 tb_500 tb_501 tb_121 gc_X4_clear
theorem hv_X4_clear : yX4_clear.cls = RX4 ∧ yX4_clear.cls ≠ "java/lang/invoke/MethodHandle" ∧ yX4_clear.cls ≠ "java/lang/invoke/VarHandle" ∧ (parseMethodDescriptor yX4_clear.desc).map (fun d => d.parameters.length) = some 0 := rhv_X4_clear
theorem dX5_readRule_4 : decode cX5_readRule 4 = .ok (.aload_n 0, 1) := rdX5_readRule_4
theorem dX5_readRule_5 : decode cX5_readRule 5 = .ok (.ldc 65, 2) := rdX5_readRule_5
theorem dX5_readRule_7 : decode cX5_readRule 7 = .ok (.invokevirtual 67, 3) := rdX5_readRule_7
theorem dX5_readRule_10 : decode cX5_readRule 10 = .ok (.ifCond .eq 10, 3) := rdX5_readRule_10
theorem dX5_readRule_20 : decode cX5_readRule 20 = .ok (.aload_n 0, 1) := rdX5_readRule_20
theorem dX5_readRule_21 : decode cX5_readRule 21 = .ok (.aload_n 1, 1) := rdX5_readRule_21
theorem dX5_readRule_22 : decode cX5_readRule 22 = .ok (.iconst 0, 1) := rdX5_readRule_22
theorem dX5_readRule_23 : decode cX5_readRule 23 = .ok (.ldc 75, 2) := rdX5_readRule_23
theorem dX5_readRule_25 : decode cX5_readRule 25 = .ok (.invokevirtual 77, 3) := rdX5_readRule_25
theorem dX5_readRule_28 : decode cX5_readRule 28 = .ok (.ifCond .eq 11, 3) := rdX5_readRule_28
theorem dX5_readRule_39 : decode cX5_readRule 39 = .ok (.iconst 0, 1) := rdX5_readRule_39
theorem dX5_readRule_40 : decode cX5_readRule 40 = .ok (.ireturn, 1) := rdX5_readRule_40
theorem dX5_readRule_31 : decode cX5_readRule 31 = .ok (.aload_n 0, 1) := rdX5_readRule_31
theorem dX5_readRule_32 : decode cX5_readRule 32 = .ok (.aload_n 1, 1) := rdX5_readRule_32
theorem dX5_readRule_33 : decode cX5_readRule 33 = .ok (.invokevirtual 81, 3) := rdX5_readRule_33
theorem tk_X5_readParts : Cond.code yX5_readParts cX5_readParts 3 (some .boolean) ∈ TB := rtk_X5_readParts
theorem gc_X5_readParts : GoodIn TB (cw yX5_readParts cX5_readParts 3 (some .boolean)) := goodIn_c2 tk_X5_readParts
theorem tb_502 : Cond.methodLink "ToneLines$RuleReader" 81 yX5_readParts ∈ TB := rtb_69
theorem tb_503 : Cond.instanceMethod yX5_readParts ∈ TB := rtb_70
theorem tb_504 : Cond.selects "ToneLines$RuleReader" yX5_readParts yX5_readParts ∈ TB := rtb_71
theorem gv_X5_81 : GoodIn TB (wsV RX5 81 RX5 yX5_readParts (cw yX5_readParts cX5_readParts 3 (some .boolean))) := goodIn_4 tb_502 tb_503 tb_504 tb_477 gc_X5_readParts
theorem hv_X5_readParts : yX5_readParts.cls = RX5 ∧ yX5_readParts.cls ≠ "java/lang/invoke/MethodHandle" ∧ yX5_readParts.cls ≠ "java/lang/invoke/VarHandle" ∧ (parseMethodDescriptor yX5_readParts.desc).map (fun d => d.parameters.length) = some 1 := rhv_X5_readParts
theorem dX5_readRule_36 : decode cX5_readRule 36 = .ok (.ifCond .ne 5, 3) := rdX5_readRule_36
theorem dX5_readRule_41 : decode cX5_readRule 41 = .ok (.aload_n 1, 1) := rdX5_readRule_41
theorem dX5_readRule_42 : decode cX5_readRule 42 = .ok (.getfield 71, 3) := rdX5_readRule_42
theorem dX5_readRule_45 : decode cX5_readRule 45 = .ok (.iconst 0, 1) := rdX5_readRule_45
theorem dX5_readRule_46 : decode cX5_readRule 46 = .ok (.iaload, 1) := rdX5_readRule_46
theorem dX5_readRule_47 : decode cX5_readRule 47 = .ok (.invokestatic 84, 3) := rdX5_readRule_47
theorem tk_X5_mayHaveIf : Cond.code yX5_mayHaveIf cX5_mayHaveIf 1 (some .boolean) ∈ TB := rtk_X5_mayHaveIf
theorem gc_X5_mayHaveIf : GoodIn TB (cw yX5_mayHaveIf cX5_mayHaveIf 1 (some .boolean)) := goodIn_c2 tk_X5_mayHaveIf
theorem tb_505 : Cond.methodLink "ToneLines$RuleReader" 84 yX5_mayHaveIf ∈ TB := rtb_72
theorem tb_506 : Cond.static yX5_mayHaveIf ∈ TB := rtb_73
theorem gs_X5_84 : GoodIn TB (va_wsS RX5 84 yX5_mayHaveIf (cw yX5_mayHaveIf cX5_mayHaveIf 1 (some .boolean))) := goodIn_3 tb_505 tb_506 tb_477 gc_X5_mayHaveIf
theorem hs_X5_mayHaveIf : yX5_mayHaveIf.cls ≠ "java/lang/invoke/MethodHandle" ∧ yX5_mayHaveIf.cls ≠ "java/lang/invoke/VarHandle" ∧ (parseMethodDescriptor yX5_mayHaveIf.desc).map (fun d => d.parameters.length) = some 1 := rhs_X5_mayHaveIf
theorem dX5_readRule_50 : decode cX5_readRule 50 = .ok (.ifCond .eq 22, 3) := rdX5_readRule_50
theorem dX5_readRule_72 : decode cX5_readRule 72 = .ok (.aload_n 0, 1) := rdX5_readRule_72
theorem dX5_readRule_73 : decode cX5_readRule 73 = .ok (.getfield 31, 3) := rdX5_readRule_73
theorem dX5_readRule_76 : decode cX5_readRule 76 = .ok (.aload_n 0, 1) := rdX5_readRule_76
theorem dX5_readRule_77 : decode cX5_readRule 77 = .ok (.getfield 21, 3) := rdX5_readRule_77
theorem dX5_readRule_80 : decode cX5_readRule 80 = .ok (.invokevirtual 52, 3) := rdX5_readRule_80
theorem dX5_readRule_83 : decode cX5_readRule 83 = .ok (.bipush 59, 2) := rdX5_readRule_83
theorem dX5_readRule_85 : decode cX5_readRule 85 = .ok (.if_icmp .eq 5, 3) := rdX5_readRule_85
theorem dX5_readRule_90 : decode cX5_readRule 90 = .ok (.aload_n 0, 1) := rdX5_readRule_90
theorem dX5_readRule_91 : decode cX5_readRule 91 = .ok (.invokevirtual 36, 3) := rdX5_readRule_91
theorem dX5_readRule_94 : decode cX5_readRule 94 = .ok (.iconst 1, 1) := rdX5_readRule_94
theorem dX5_readRule_95 : decode cX5_readRule 95 = .ok (.ireturn, 1) := rdX5_readRule_95
theorem dX5_readRule_88 : decode cX5_readRule 88 = .ok (.iconst 0, 1) := rdX5_readRule_88
theorem dX5_readRule_89 : decode cX5_readRule 89 = .ok (.ireturn, 1) := rdX5_readRule_89
theorem dX5_readRule_53 : decode cX5_readRule 53 = .ok (.aload_n 0, 1) := rdX5_readRule_53
theorem dX5_readRule_54 : decode cX5_readRule 54 = .ok (.ldc 87, 2) := rdX5_readRule_54
theorem dX5_readRule_56 : decode cX5_readRule 56 = .ok (.invokevirtual 67, 3) := rdX5_readRule_56
theorem dX5_readRule_59 : decode cX5_readRule 59 = .ok (.ifCond .eq 13, 3) := rdX5_readRule_59
theorem dX5_readRule_62 : decode cX5_readRule 62 = .ok (.aload_n 0, 1) := rdX5_readRule_62
theorem dX5_readRule_63 : decode cX5_readRule 63 = .ok (.aload_n 1, 1) := rdX5_readRule_63
theorem dX5_readRule_64 : decode cX5_readRule 64 = .ok (.invokevirtual 89, 3) := rdX5_readRule_64
theorem tk_X5_readTest : Cond.code yX5_readTest cX5_readTest 3 (some .boolean) ∈ TB := rtk_X5_readTest
theorem gc_X5_readTest : GoodIn TB (cw yX5_readTest cX5_readTest 3 (some .boolean)) := goodIn_c2 tk_X5_readTest
theorem tb_507 : Cond.methodLink "ToneLines$RuleReader" 89 yX5_readTest ∈ TB := rtb_74
theorem tb_508 : Cond.instanceMethod yX5_readTest ∈ TB := rtb_75
theorem tb_509 : Cond.selects "ToneLines$RuleReader" yX5_readTest yX5_readTest ∈ TB := rtb_76
theorem gv_X5_89 : GoodIn TB (wsV RX5 89 RX5 yX5_readTest (cw yX5_readTest cX5_readTest 3 (some .boolean))) := goodIn_4 tb_507 tb_508 tb_509 tb_477 gc_X5_readTest
theorem hv_X5_readTest : yX5_readTest.cls = RX5 ∧ yX5_readTest.cls ≠ "java/lang/invoke/MethodHandle" ∧ yX5_readTest.cls ≠ "java/lang/invoke/VarHandle" ∧ (parseMethodDescriptor yX5_readTest.desc).map (fun d => d.parameters.length) = some 1 := rhv_X5_readTest
theorem dX5_readRule_67 : decode cX5_readRule 67 = .ok (.ifCond .ne 5, 3) := rdX5_readRule_67
theorem dX5_readRule_70 : decode cX5_readRule 70 = .ok (.iconst 0, 1) := rdX5_readRule_70
theorem dX5_readRule_71 : decode cX5_readRule 71 = .ok (.ireturn, 1) := rdX5_readRule_71
theorem dX5_readRule_13 : decode cX5_readRule 13 = .ok (.aload_n 1, 1) := rdX5_readRule_13
theorem dX5_readRule_14 : decode cX5_readRule 14 = .ok (.getfield 71, 3) := rdX5_readRule_14
theorem dX5_readRule_17 : decode cX5_readRule 17 = .ok (.iconst 1, 1) := rdX5_readRule_17
theorem dX5_readRule_18 : decode cX5_readRule 18 = .ok (.iconst 1, 1) := rdX5_readRule_18
theorem dX5_readRule_19 : decode cX5_readRule 19 = .ok (.iastore, 1) := rdX5_readRule_19
set_option maxRecDepth 4000 in
theorem q_X5_readRule {l : Launch} {D : va_G} {B : Nat} {cy : Nat → ClassId} {M : Mem} {u1 : Nat} (hku1 : kd u1 = (4, 0, 0)) (hI : Inv M) : Ci l D B cy yX5_readRule cX5_readRule 2 (some .boolean) 7 156 [.ref (B + 4), .ref (B + u1)] M (fun r M1 => ∃ z : Int, r = zI z ∧ (0 ≤ z ∧ z ≤ 1) ∧ Inv M1 ∧ Fr (fun b9 k9 => (b9 = 4 ∧ k9 = 3) ∨ (b9 = 4 ∧ k9 = 4) ∨ (b9 = 4 ∧ k9 = 5) ∨ b9 = (u1 + 1)) M1 M) := by
  refine s_anyQ (by decide) (Nat.le_of_ble_eq_true rfl) ?_
  intro p e s m args below meth c ls Q F hr hlocks hQ w hl
  have F : CallFix p m c cX5_readRule 2 s args TB RX5 := F
  have hx := F.1
  have hb := F.2.1
  have hl : lv_has ls 2 [(0, .ref (B + 4)), (1, .ref (B + u1))] := hl
  have hF : Fr (fun b9 k9 => (b9 = 4 ∧ k9 = 3) ∨ (b9 = 4 ∧ k9 = 4) ∨ (b9 = 4 ∧ k9 = 5) ∨ b9 = (u1 + 1)) M M := Fr.rf
  refine lv_aload_n hx hb dX5_readRule_0 rfl (lv_at hl 1 rfl) ?_
  refine k_Vv F w (As := []) (rest := []) (a := u1) (kd_lt (a := u1) hku1 (by decide)) (sh_4 hku1 _ _) rfl (q_X4_clear (u1 := u1) hku1  hI) gv_X5_62 hv_X4_clear ⟨(Nat.le_of_ble_eq_true rfl), (Nat.le_of_ble_eq_true rfl)⟩ hl.1 rfl (Nat.le_of_ble_eq_true rfl) ⟨Nat.zero_le _, Nat.zero_le _⟩ dX5_readRule_1 (fun N2 H locs hp w => ?_)
  obtain ⟨hIN2, hFN2⟩ := hp
  have hGN2 := Fr.tr hF hFN2 (S := (fun b9 k9 => (b9 = 4 ∧ k9 = 3) ∨ (b9 = 4 ∧ k9 = 4) ∨ (b9 = 4 ∧ k9 = 5) ∨ b9 = (u1 + 1))) (fun b k h => by (try dsimp only at h ⊢); (repeat' (refine Or.elim h ?_ ?_ <;> clear h <;> intro h)); all_goals first | (obtain ⟨rfl, rfl⟩ := h; decide) | (subst h; decide) | omega)
  refine lv_aload_n hx hb dX5_readRule_4 rfl (lv_at hl 0 rfl) ?_
  refine va_ldcS F.1 F.2.1 F.2.2.2.1 (show vk_R "ToneLines$RuleReader" 65 "again" (D.2 200 1) s from (w.2.2.2.2.1 1 (by decide)).1) dX5_readRule_5 ?_
  refine k_Vi F w (As := [.ref (D.2 200 1)]) (rest := []) (a := 4) (kd_lt (a := 4) (show kd 4 = (5, 0, 0) from rfl) (by decide)) (sh_5 rfl _ _) rfl (q_X5_readWord (i9 := 1) (show 1 < NSL by decide)  hIN2) gv_X5_67 hv_X5_readWord ⟨(Nat.le_of_ble_eq_true rfl), (Nat.le_of_ble_eq_true rfl)⟩ hl.1 rfl (Nat.le_of_ble_eq_true rfl) ⟨Nat.zero_le _, Nat.zero_le _⟩ dX5_readRule_7 (fun r4 N5 H locs hp w => ?_)
  obtain ⟨z6, rfl, bz6, hIN5, hFN5⟩ := hp
  have hGN5 := Fr.tr hGN2 hFN5 (S := (fun b9 k9 => (b9 = 4 ∧ k9 = 3) ∨ (b9 = 4 ∧ k9 = 4) ∨ (b9 = 4 ∧ k9 = 5) ∨ b9 = (u1 + 1))) (fun b k h => by (try dsimp only at h ⊢); (repeat' (refine Or.elim h ?_ ?_ <;> clear h <;> intro h)); all_goals first | (obtain ⟨rfl, rfl⟩ := h; decide) | (subst h; decide) | omega)
  refine z_if_eq (tgt := 20) hx hb (by omega) dX5_readRule_10 (by decide) (fun c7 => ?_) (fun c7 => ?_)
  · refine lv_aload_n hx hb dX5_readRule_20 rfl (lv_at hl 0 rfl) ?_
    refine lv_aload_n hx hb dX5_readRule_21 rfl (lv_at hl 1 rfl) ?_
    refine lv_iconst (v := zI 0) hx hb dX5_readRule_22 rfl ?_
    refine va_ldcS F.1 F.2.1 F.2.2.2.1 (show vk_R "ToneLines$RuleReader" 75 "link spread shift cut dock drop fuse turn flat fill" (D.2 200 2) s from (w.2.2.2.2.1 2 (by decide)).1) dX5_readRule_23 ?_
    refine k_Vi F w (As := [.ref (B + u1), .int (zI 0), .ref (D.2 200 2)]) (rest := []) (a := 4) (kd_lt (a := 4) (show kd 4 = (5, 0, 0) from rfl) (by decide)) (sh_5 rfl _ _) rfl (q_X5_readChoice (u1 := u1) hku1 (x := 0) (by omega) (i9 := 2) (show 2 < NSL by decide)  hIN5) gv_X5_77 hv_X5_readChoice ⟨(Nat.le_of_ble_eq_true rfl), (Nat.le_of_ble_eq_true rfl)⟩ hl.1 rfl (Nat.le_of_ble_eq_true rfl) ⟨Nat.zero_le _, Nat.zero_le _⟩ dX5_readRule_25 (fun r8 N9 H locs hp w => ?_)
    obtain ⟨z10, rfl, bz10, hIN9, hFN9⟩ := hp
    have hGN9 := Fr.tr hGN5 hFN9 (S := (fun b9 k9 => (b9 = 4 ∧ k9 = 3) ∨ (b9 = 4 ∧ k9 = 4) ∨ (b9 = 4 ∧ k9 = 5) ∨ b9 = (u1 + 1))) (fun b k h => by (try dsimp only at h ⊢); (repeat' (refine Or.elim h ?_ ?_ <;> clear h <;> intro h)); all_goals first | (obtain ⟨rfl, rfl⟩ := h; decide) | (subst h; decide) | omega)
    refine z_if_eq (tgt := 39) hx hb (by omega) dX5_readRule_28 (by decide) (fun c11 => ?_) (fun c11 => ?_)
    · refine lv_iconst (v := zI 0) hx hb dX5_readRule_39 rfl ?_
      rw [hQ]
      exact e_z F w hr hlocks (nar_z (by omega)) ⟨_, rfl, (by omega), hIN9, hGN9⟩ dX5_readRule_40
    · refine lv_aload_n hx hb dX5_readRule_31 rfl (lv_at hl 0 rfl) ?_
      refine lv_aload_n hx hb dX5_readRule_32 rfl (lv_at hl 1 rfl) ?_
      refine k_Vi F w (As := [.ref (B + u1)]) (rest := []) (a := 4) (kd_lt (a := 4) (show kd 4 = (5, 0, 0) from rfl) (by decide)) (sh_5 rfl _ _) rfl (q_X5_readParts (u1 := u1) hku1  hIN9) gv_X5_81 hv_X5_readParts ⟨(Nat.le_of_ble_eq_true rfl), (Nat.le_of_ble_eq_true rfl)⟩ hl.1 rfl (Nat.le_of_ble_eq_true rfl) ⟨Nat.zero_le _, Nat.zero_le _⟩ dX5_readRule_33 (fun r12 N13 H locs hp w => ?_)
      obtain ⟨z14, rfl, bz14, hIN13, hFN13⟩ := hp
      have hGN13 := Fr.tr hGN9 hFN13 (S := (fun b9 k9 => (b9 = 4 ∧ k9 = 3) ∨ (b9 = 4 ∧ k9 = 4) ∨ (b9 = 4 ∧ k9 = 5) ∨ b9 = (u1 + 1))) (fun b k h => by (try dsimp only at h ⊢); (repeat' (refine Or.elim h ?_ ?_ <;> clear h <;> intro h)); all_goals first | (obtain ⟨rfl, rfl⟩ := h; decide) | (subst h; decide) | omega)
      refine z_if_ne (tgt := 41) hx hb (by omega) dX5_readRule_36 (by decide) (fun c15 => ?_) (fun c15 => ?_)
      · refine lv_aload_n hx hb dX5_readRule_41 rfl (lv_at hl 1 rfl) ?_
        refine f_4_0 F w (a := u1) hku1 tb_489 dX5_readRule_42 ?_
        refine lv_iconst (v := zI 0) hx hb dX5_readRule_45 rfl ?_
        refine g_iald F w (a := (u1 + 1)) (iv_u hku1).2.2 (j := 0) ⟨by decide, by decide⟩ (by omega) dX5_readRule_46 ?_
        obtain ⟨z16, bz16, ez16⟩ := Inv.ld (k := 0) hIN13 (iv_up hku1 _) (by have := lt_u hku1; omega)
        refine r_val ez16 ?_
        refine k_Si F w (As := [.int (zI z16)]) (rest := []) (q_X5_mayHaveIf (x := z16) (by omega)  hIN13) gs_X5_84 hs_X5_mayHaveIf ⟨(Nat.le_of_ble_eq_true rfl), (Nat.le_of_ble_eq_true rfl)⟩ hl.1 rfl (Nat.le_of_ble_eq_true rfl) ⟨Nat.zero_le _, Nat.zero_le _⟩ dX5_readRule_47 (fun r17 N18 H locs hp w => ?_)
        obtain ⟨z19, rfl, bz19, hMN18⟩ := hp
        rw [hMN18] at w
        refine z_if_eq (tgt := 72) hx hb (by omega) dX5_readRule_50 (by decide) (fun c20 => ?_) (fun c20 => ?_)
        · refine lv_aload_n hx hb dX5_readRule_72 rfl (lv_at hl 0 rfl) ?_
          refine f_5_0 F w (a := 4) rfl tb_469 dX5_readRule_73 ?_
          refine lv_aload_n hx hb dX5_readRule_76 rfl (lv_at hl 0 rfl) ?_
          refine f_5_3 F w (a := 4) rfl tb_471 dX5_readRule_77 ?_
          obtain ⟨z21, bz21, ez21⟩ := Inv.ld (k := 3) hIN13 (show iv 4 3 = ((-2147483648), 2147483647) from rfl) (show 4 < 146 by decide)
          refine r_val ez21 ?_
          refine k_Vi F w (As := [.int (zI z21)]) (rest := []) (a := 1) (kd_lt (a := 1) (show kd 1 = (8, 0, 0) from rfl) (by decide)) (sh_8 rfl _ _) rfl (q_X8_signAt (x := z21) (by omega)  hIN13) gv_X5_52 hv_X8_signAt ⟨(Nat.le_of_ble_eq_true rfl), (Nat.le_of_ble_eq_true rfl)⟩ hl.1 rfl (Nat.le_of_ble_eq_true rfl) ⟨Nat.zero_le _, Nat.zero_le _⟩ dX5_readRule_80 (fun r22 N23 H locs hp w => ?_)
          obtain ⟨z24, rfl, bz24, xz24, hMN23⟩ := hp
          rw [hMN23] at w
          refine lv_bipush (v := zI 59) hx hb dX5_readRule_83 (by decide) ?_
          refine z_icmp_eq (tgt := 90) hx hb (by omega) (by omega) dX5_readRule_85 (by decide) (fun c25 => ?_) (fun c25 => ?_)
          · refine lv_aload_n hx hb dX5_readRule_90 rfl (lv_at hl 0 rfl) ?_
            refine k_Vv F w (As := []) (rest := []) (a := 4) (kd_lt (a := 4) (show kd 4 = (5, 0, 0) from rfl) (by decide)) (sh_5 rfl _ _) rfl (q_X5_step   hIN13) gv_X5_36 hv_X5_step ⟨(Nat.le_of_ble_eq_true rfl), (Nat.le_of_ble_eq_true rfl)⟩ hl.1 rfl (Nat.le_of_ble_eq_true rfl) ⟨Nat.zero_le _, Nat.zero_le _⟩ dX5_readRule_91 (fun N27 H locs hp w => ?_)
            obtain ⟨hIN27, hFN27⟩ := hp
            have hGN27 := Fr.tr hGN13 hFN27 (S := (fun b9 k9 => (b9 = 4 ∧ k9 = 3) ∨ (b9 = 4 ∧ k9 = 4) ∨ (b9 = 4 ∧ k9 = 5) ∨ b9 = (u1 + 1))) (fun b k h => by (try dsimp only at h ⊢); (repeat' (refine Or.elim h ?_ ?_ <;> clear h <;> intro h)); all_goals first | (obtain ⟨rfl, rfl⟩ := h; decide) | (subst h; decide) | omega)
            refine lv_iconst (v := zI 1) hx hb dX5_readRule_94 rfl ?_
            rw [hQ]
            exact e_z F w hr hlocks (nar_z (by omega)) ⟨_, rfl, (by omega), hIN27, hGN27⟩ dX5_readRule_95
          · refine lv_iconst (v := zI 0) hx hb dX5_readRule_88 rfl ?_
            rw [hQ]
            exact e_z F w hr hlocks (nar_z (by omega)) ⟨_, rfl, (by omega), hIN13, hGN13⟩ dX5_readRule_89
        · refine lv_aload_n hx hb dX5_readRule_53 rfl (lv_at hl 0 rfl) ?_
          refine va_ldcS F.1 F.2.1 F.2.2.2.1 (show vk_R "ToneLines$RuleReader" 87 "if" (D.2 200 8) s from (w.2.2.2.2.1 8 (by decide)).1) dX5_readRule_54 ?_
          refine k_Vi F w (As := [.ref (D.2 200 8)]) (rest := []) (a := 4) (kd_lt (a := 4) (show kd 4 = (5, 0, 0) from rfl) (by decide)) (sh_5 rfl _ _) rfl (q_X5_readWord (i9 := 8) (show 8 < NSL by decide)  hIN13) gv_X5_67 hv_X5_readWord ⟨(Nat.le_of_ble_eq_true rfl), (Nat.le_of_ble_eq_true rfl)⟩ hl.1 rfl (Nat.le_of_ble_eq_true rfl) ⟨Nat.zero_le _, Nat.zero_le _⟩ dX5_readRule_56 (fun r29 N30 H locs hp w => ?_)
          obtain ⟨z31, rfl, bz31, hIN30, hFN30⟩ := hp
          have hGN30 := Fr.tr hGN13 hFN30 (S := (fun b9 k9 => (b9 = 4 ∧ k9 = 3) ∨ (b9 = 4 ∧ k9 = 4) ∨ (b9 = 4 ∧ k9 = 5) ∨ b9 = (u1 + 1))) (fun b k h => by (try dsimp only at h ⊢); (repeat' (refine Or.elim h ?_ ?_ <;> clear h <;> intro h)); all_goals first | (obtain ⟨rfl, rfl⟩ := h; decide) | (subst h; decide) | omega)
          refine z_if_eq (tgt := 72) hx hb (by omega) dX5_readRule_59 (by decide) (fun c32 => ?_) (fun c32 => ?_)
          · refine lv_aload_n hx hb dX5_readRule_72 rfl (lv_at hl 0 rfl) ?_
            refine f_5_0 F w (a := 4) rfl tb_469 dX5_readRule_73 ?_
            refine lv_aload_n hx hb dX5_readRule_76 rfl (lv_at hl 0 rfl) ?_
            refine f_5_3 F w (a := 4) rfl tb_471 dX5_readRule_77 ?_
            obtain ⟨z33, bz33, ez33⟩ := Inv.ld (k := 3) hIN30 (show iv 4 3 = ((-2147483648), 2147483647) from rfl) (show 4 < 146 by decide)
            refine r_val ez33 ?_
            refine k_Vi F w (As := [.int (zI z33)]) (rest := []) (a := 1) (kd_lt (a := 1) (show kd 1 = (8, 0, 0) from rfl) (by decide)) (sh_8 rfl _ _) rfl (q_X8_signAt (x := z33) (by omega)  hIN30) gv_X5_52 hv_X8_signAt ⟨(Nat.le_of_ble_eq_true rfl), (Nat.le_of_ble_eq_true rfl)⟩ hl.1 rfl (Nat.le_of_ble_eq_true rfl) ⟨Nat.zero_le _, Nat.zero_le _⟩ dX5_readRule_80 (fun r34 N35 H locs hp w => ?_)
            obtain ⟨z36, rfl, bz36, xz36, hMN35⟩ := hp
            rw [hMN35] at w
            refine lv_bipush (v := zI 59) hx hb dX5_readRule_83 (by decide) ?_
            refine z_icmp_eq (tgt := 90) hx hb (by omega) (by omega) dX5_readRule_85 (by decide) (fun c37 => ?_) (fun c37 => ?_)
            · refine lv_aload_n hx hb dX5_readRule_90 rfl (lv_at hl 0 rfl) ?_
              refine k_Vv F w (As := []) (rest := []) (a := 4) (kd_lt (a := 4) (show kd 4 = (5, 0, 0) from rfl) (by decide)) (sh_5 rfl _ _) rfl (q_X5_step   hIN30) gv_X5_36 hv_X5_step ⟨(Nat.le_of_ble_eq_true rfl), (Nat.le_of_ble_eq_true rfl)⟩ hl.1 rfl (Nat.le_of_ble_eq_true rfl) ⟨Nat.zero_le _, Nat.zero_le _⟩ dX5_readRule_91 (fun N39 H locs hp w => ?_)
              obtain ⟨hIN39, hFN39⟩ := hp
              have hGN39 := Fr.tr hGN30 hFN39 (S := (fun b9 k9 => (b9 = 4 ∧ k9 = 3) ∨ (b9 = 4 ∧ k9 = 4) ∨ (b9 = 4 ∧ k9 = 5) ∨ b9 = (u1 + 1))) (fun b k h => by (try dsimp only at h ⊢); (repeat' (refine Or.elim h ?_ ?_ <;> clear h <;> intro h)); all_goals first | (obtain ⟨rfl, rfl⟩ := h; decide) | (subst h; decide) | omega)
              refine lv_iconst (v := zI 1) hx hb dX5_readRule_94 rfl ?_
              rw [hQ]
              exact e_z F w hr hlocks (nar_z (by omega)) ⟨_, rfl, (by omega), hIN39, hGN39⟩ dX5_readRule_95
            · refine lv_iconst (v := zI 0) hx hb dX5_readRule_88 rfl ?_
              rw [hQ]
              exact e_z F w hr hlocks (nar_z (by omega)) ⟨_, rfl, (by omega), hIN30, hGN30⟩ dX5_readRule_89
          · refine lv_aload_n hx hb dX5_readRule_62 rfl (lv_at hl 0 rfl) ?_
            refine lv_aload_n hx hb dX5_readRule_63 rfl (lv_at hl 1 rfl) ?_
            refine k_Vi F w (As := [.ref (B + u1)]) (rest := []) (a := 4) (kd_lt (a := 4) (show kd 4 = (5, 0, 0) from rfl) (by decide)) (sh_5 rfl _ _) rfl (q_X5_readTest (u1 := u1) hku1  hIN30) gv_X5_89 hv_X5_readTest ⟨(Nat.le_of_ble_eq_true rfl), (Nat.le_of_ble_eq_true rfl)⟩ hl.1 rfl (Nat.le_of_ble_eq_true rfl) ⟨Nat.zero_le _, Nat.zero_le _⟩ dX5_readRule_64 (fun r41 N42 H locs hp w => ?_)
            obtain ⟨z43, rfl, bz43, hIN42, hFN42⟩ := hp
            have hGN42 := Fr.tr hGN30 hFN42 (S := (fun b9 k9 => (b9 = 4 ∧ k9 = 3) ∨ (b9 = 4 ∧ k9 = 4) ∨ (b9 = 4 ∧ k9 = 5) ∨ b9 = (u1 + 1))) (fun b k h => by (try dsimp only at h ⊢); (repeat' (refine Or.elim h ?_ ?_ <;> clear h <;> intro h)); all_goals first | (obtain ⟨rfl, rfl⟩ := h; decide) | (subst h; decide) | omega)
            refine z_if_ne (tgt := 72) hx hb (by omega) dX5_readRule_67 (by decide) (fun c44 => ?_) (fun c44 => ?_)
            · refine lv_aload_n hx hb dX5_readRule_72 rfl (lv_at hl 0 rfl) ?_
              refine f_5_0 F w (a := 4) rfl tb_469 dX5_readRule_73 ?_
              refine lv_aload_n hx hb dX5_readRule_76 rfl (lv_at hl 0 rfl) ?_
              refine f_5_3 F w (a := 4) rfl tb_471 dX5_readRule_77 ?_
              obtain ⟨z45, bz45, ez45⟩ := Inv.ld (k := 3) hIN42 (show iv 4 3 = ((-2147483648), 2147483647) from rfl) (show 4 < 146 by decide)
              refine r_val ez45 ?_
              refine k_Vi F w (As := [.int (zI z45)]) (rest := []) (a := 1) (kd_lt (a := 1) (show kd 1 = (8, 0, 0) from rfl) (by decide)) (sh_8 rfl _ _) rfl (q_X8_signAt (x := z45) (by omega)  hIN42) gv_X5_52 hv_X8_signAt ⟨(Nat.le_of_ble_eq_true rfl), (Nat.le_of_ble_eq_true rfl)⟩ hl.1 rfl (Nat.le_of_ble_eq_true rfl) ⟨Nat.zero_le _, Nat.zero_le _⟩ dX5_readRule_80 (fun r46 N47 H locs hp w => ?_)
              obtain ⟨z48, rfl, bz48, xz48, hMN47⟩ := hp
              rw [hMN47] at w
              refine lv_bipush (v := zI 59) hx hb dX5_readRule_83 (by decide) ?_
              refine z_icmp_eq (tgt := 90) hx hb (by omega) (by omega) dX5_readRule_85 (by decide) (fun c49 => ?_) (fun c49 => ?_)
              · refine lv_aload_n hx hb dX5_readRule_90 rfl (lv_at hl 0 rfl) ?_
                refine k_Vv F w (As := []) (rest := []) (a := 4) (kd_lt (a := 4) (show kd 4 = (5, 0, 0) from rfl) (by decide)) (sh_5 rfl _ _) rfl (q_X5_step   hIN42) gv_X5_36 hv_X5_step ⟨(Nat.le_of_ble_eq_true rfl), (Nat.le_of_ble_eq_true rfl)⟩ hl.1 rfl (Nat.le_of_ble_eq_true rfl) ⟨Nat.zero_le _, Nat.zero_le _⟩ dX5_readRule_91 (fun N51 H locs hp w => ?_)
                obtain ⟨hIN51, hFN51⟩ := hp
                have hGN51 := Fr.tr hGN42 hFN51 (S := (fun b9 k9 => (b9 = 4 ∧ k9 = 3) ∨ (b9 = 4 ∧ k9 = 4) ∨ (b9 = 4 ∧ k9 = 5) ∨ b9 = (u1 + 1))) (fun b k h => by (try dsimp only at h ⊢); (repeat' (refine Or.elim h ?_ ?_ <;> clear h <;> intro h)); all_goals first | (obtain ⟨rfl, rfl⟩ := h; decide) | (subst h; decide) | omega)
                refine lv_iconst (v := zI 1) hx hb dX5_readRule_94 rfl ?_
                rw [hQ]
                exact e_z F w hr hlocks (nar_z (by omega)) ⟨_, rfl, (by omega), hIN51, hGN51⟩ dX5_readRule_95
              · refine lv_iconst (v := zI 0) hx hb dX5_readRule_88 rfl ?_
                rw [hQ]
                exact e_z F w hr hlocks (nar_z (by omega)) ⟨_, rfl, (by omega), hIN42, hGN42⟩ dX5_readRule_89
            · refine lv_iconst (v := zI 0) hx hb dX5_readRule_70 rfl ?_
              rw [hQ]
              exact e_z F w hr hlocks (nar_z (by omega)) ⟨_, rfl, (by omega), hIN42, hGN42⟩ dX5_readRule_71
      · refine lv_iconst (v := zI 0) hx hb dX5_readRule_39 rfl ?_
        rw [hQ]
        exact e_z F w hr hlocks (nar_z (by omega)) ⟨_, rfl, (by omega), hIN13, hGN13⟩ dX5_readRule_40
  · refine lv_aload_n hx hb dX5_readRule_13 rfl (lv_at hl 1 rfl) ?_
    refine f_4_0 F w (a := u1) hku1 tb_489 dX5_readRule_14 ?_
    refine lv_iconst (v := zI 1) hx hb dX5_readRule_17 rfl ?_
    refine lv_iconst (v := zI 1) hx hb dX5_readRule_18 rfl ?_
    refine g_iast F w (a := (u1 + 1)) (iv_u hku1).2.2 (j := 1) ⟨by decide, by decide⟩ (by omega) dX5_readRule_19 (fun H locs w => ?_)
    refine lv_aload_n hx hb dX5_readRule_20 rfl (lv_at hl 0 rfl) ?_
    refine lv_aload_n hx hb dX5_readRule_21 rfl (lv_at hl 1 rfl) ?_
    refine lv_iconst (v := zI 0) hx hb dX5_readRule_22 rfl ?_
    refine va_ldcS F.1 F.2.1 F.2.2.2.1 (show vk_R "ToneLines$RuleReader" 75 "link spread shift cut dock drop fuse turn flat fill" (D.2 200 2) s from (w.2.2.2.2.1 2 (by decide)).1) dX5_readRule_23 ?_
    refine k_Vi F w (As := [.ref (B + u1), .int (zI 0), .ref (D.2 200 2)]) (rest := []) (a := 4) (kd_lt (a := 4) (show kd 4 = (5, 0, 0) from rfl) (by decide)) (sh_5 rfl _ _) rfl (q_X5_readChoice (u1 := u1) hku1 (x := 0) (by omega) (i9 := 2) (show 2 < NSL by decide)  (Inv.to hIN5 (a := (u1 + 1)) (k := 1) (x := 1) (iv_up hku1 _) (by omega))) gv_X5_77 hv_X5_readChoice ⟨(Nat.le_of_ble_eq_true rfl), (Nat.le_of_ble_eq_true rfl)⟩ hl.1 rfl (Nat.le_of_ble_eq_true rfl) ⟨Nat.zero_le _, Nat.zero_le _⟩ dX5_readRule_25 (fun r53 N54 H locs hp w => ?_)
    obtain ⟨z55, rfl, bz55, hIN54, hFN54⟩ := hp
    have hGN54 := Fr.tr (Fr.to hGN5 (by first | omega | (dsimp only; first | done | omega))) hFN54 (S := (fun b9 k9 => (b9 = 4 ∧ k9 = 3) ∨ (b9 = 4 ∧ k9 = 4) ∨ (b9 = 4 ∧ k9 = 5) ∨ b9 = (u1 + 1))) (fun b k h => by (try dsimp only at h ⊢); (repeat' (refine Or.elim h ?_ ?_ <;> clear h <;> intro h)); all_goals first | (obtain ⟨rfl, rfl⟩ := h; decide) | (subst h; decide) | omega)
    refine z_if_eq (tgt := 39) hx hb (by omega) dX5_readRule_28 (by decide) (fun c56 => ?_) (fun c56 => ?_)
    · refine lv_iconst (v := zI 0) hx hb dX5_readRule_39 rfl ?_
      rw [hQ]
      exact e_z F w hr hlocks (nar_z (by omega)) ⟨_, rfl, (by omega), hIN54, hGN54⟩ dX5_readRule_40
    · refine lv_aload_n hx hb dX5_readRule_31 rfl (lv_at hl 0 rfl) ?_
      refine lv_aload_n hx hb dX5_readRule_32 rfl (lv_at hl 1 rfl) ?_
      refine k_Vi F w (As := [.ref (B + u1)]) (rest := []) (a := 4) (kd_lt (a := 4) (show kd 4 = (5, 0, 0) from rfl) (by decide)) (sh_5 rfl _ _) rfl (q_X5_readParts (u1 := u1) hku1  hIN54) gv_X5_81 hv_X5_readParts ⟨(Nat.le_of_ble_eq_true rfl), (Nat.le_of_ble_eq_true rfl)⟩ hl.1 rfl (Nat.le_of_ble_eq_true rfl) ⟨Nat.zero_le _, Nat.zero_le _⟩ dX5_readRule_33 (fun r57 N58 H locs hp w => ?_)
      obtain ⟨z59, rfl, bz59, hIN58, hFN58⟩ := hp
      have hGN58 := Fr.tr hGN54 hFN58 (S := (fun b9 k9 => (b9 = 4 ∧ k9 = 3) ∨ (b9 = 4 ∧ k9 = 4) ∨ (b9 = 4 ∧ k9 = 5) ∨ b9 = (u1 + 1))) (fun b k h => by (try dsimp only at h ⊢); (repeat' (refine Or.elim h ?_ ?_ <;> clear h <;> intro h)); all_goals first | (obtain ⟨rfl, rfl⟩ := h; decide) | (subst h; decide) | omega)
      refine z_if_ne (tgt := 41) hx hb (by omega) dX5_readRule_36 (by decide) (fun c60 => ?_) (fun c60 => ?_)
      · refine lv_aload_n hx hb dX5_readRule_41 rfl (lv_at hl 1 rfl) ?_
        refine f_4_0 F w (a := u1) hku1 tb_489 dX5_readRule_42 ?_
        refine lv_iconst (v := zI 0) hx hb dX5_readRule_45 rfl ?_
        refine g_iald F w (a := (u1 + 1)) (iv_u hku1).2.2 (j := 0) ⟨by decide, by decide⟩ (by omega) dX5_readRule_46 ?_
        obtain ⟨z61, bz61, ez61⟩ := Inv.ld (k := 0) hIN58 (iv_up hku1 _) (by have := lt_u hku1; omega)
        refine r_val ez61 ?_
        refine k_Si F w (As := [.int (zI z61)]) (rest := []) (q_X5_mayHaveIf (x := z61) (by omega)  hIN58) gs_X5_84 hs_X5_mayHaveIf ⟨(Nat.le_of_ble_eq_true rfl), (Nat.le_of_ble_eq_true rfl)⟩ hl.1 rfl (Nat.le_of_ble_eq_true rfl) ⟨Nat.zero_le _, Nat.zero_le _⟩ dX5_readRule_47 (fun r62 N63 H locs hp w => ?_)
        obtain ⟨z64, rfl, bz64, hMN63⟩ := hp
        rw [hMN63] at w
        refine z_if_eq (tgt := 72) hx hb (by omega) dX5_readRule_50 (by decide) (fun c65 => ?_) (fun c65 => ?_)
        · refine lv_aload_n hx hb dX5_readRule_72 rfl (lv_at hl 0 rfl) ?_
          refine f_5_0 F w (a := 4) rfl tb_469 dX5_readRule_73 ?_
          refine lv_aload_n hx hb dX5_readRule_76 rfl (lv_at hl 0 rfl) ?_
          refine f_5_3 F w (a := 4) rfl tb_471 dX5_readRule_77 ?_
          obtain ⟨z66, bz66, ez66⟩ := Inv.ld (k := 3) hIN58 (show iv 4 3 = ((-2147483648), 2147483647) from rfl) (show 4 < 146 by decide)
          refine r_val ez66 ?_
          refine k_Vi F w (As := [.int (zI z66)]) (rest := []) (a := 1) (kd_lt (a := 1) (show kd 1 = (8, 0, 0) from rfl) (by decide)) (sh_8 rfl _ _) rfl (q_X8_signAt (x := z66) (by omega)  hIN58) gv_X5_52 hv_X8_signAt ⟨(Nat.le_of_ble_eq_true rfl), (Nat.le_of_ble_eq_true rfl)⟩ hl.1 rfl (Nat.le_of_ble_eq_true rfl) ⟨Nat.zero_le _, Nat.zero_le _⟩ dX5_readRule_80 (fun r67 N68 H locs hp w => ?_)
          obtain ⟨z69, rfl, bz69, xz69, hMN68⟩ := hp
          rw [hMN68] at w
          refine lv_bipush (v := zI 59) hx hb dX5_readRule_83 (by decide) ?_
          refine z_icmp_eq (tgt := 90) hx hb (by omega) (by omega) dX5_readRule_85 (by decide) (fun c70 => ?_) (fun c70 => ?_)
          · refine lv_aload_n hx hb dX5_readRule_90 rfl (lv_at hl 0 rfl) ?_
            refine k_Vv F w (As := []) (rest := []) (a := 4) (kd_lt (a := 4) (show kd 4 = (5, 0, 0) from rfl) (by decide)) (sh_5 rfl _ _) rfl (q_X5_step   hIN58) gv_X5_36 hv_X5_step ⟨(Nat.le_of_ble_eq_true rfl), (Nat.le_of_ble_eq_true rfl)⟩ hl.1 rfl (Nat.le_of_ble_eq_true rfl) ⟨Nat.zero_le _, Nat.zero_le _⟩ dX5_readRule_91 (fun N72 H locs hp w => ?_)
            obtain ⟨hIN72, hFN72⟩ := hp
            have hGN72 := Fr.tr hGN58 hFN72 (S := (fun b9 k9 => (b9 = 4 ∧ k9 = 3) ∨ (b9 = 4 ∧ k9 = 4) ∨ (b9 = 4 ∧ k9 = 5) ∨ b9 = (u1 + 1))) (fun b k h => by (try dsimp only at h ⊢); (repeat' (refine Or.elim h ?_ ?_ <;> clear h <;> intro h)); all_goals first | (obtain ⟨rfl, rfl⟩ := h; decide) | (subst h; decide) | omega)
            refine lv_iconst (v := zI 1) hx hb dX5_readRule_94 rfl ?_
            rw [hQ]
            exact e_z F w hr hlocks (nar_z (by omega)) ⟨_, rfl, (by omega), hIN72, hGN72⟩ dX5_readRule_95
          · refine lv_iconst (v := zI 0) hx hb dX5_readRule_88 rfl ?_
            rw [hQ]
            exact e_z F w hr hlocks (nar_z (by omega)) ⟨_, rfl, (by omega), hIN58, hGN58⟩ dX5_readRule_89
        · refine lv_aload_n hx hb dX5_readRule_53 rfl (lv_at hl 0 rfl) ?_
          refine va_ldcS F.1 F.2.1 F.2.2.2.1 (show vk_R "ToneLines$RuleReader" 87 "if" (D.2 200 8) s from (w.2.2.2.2.1 8 (by decide)).1) dX5_readRule_54 ?_
          refine k_Vi F w (As := [.ref (D.2 200 8)]) (rest := []) (a := 4) (kd_lt (a := 4) (show kd 4 = (5, 0, 0) from rfl) (by decide)) (sh_5 rfl _ _) rfl (q_X5_readWord (i9 := 8) (show 8 < NSL by decide)  hIN58) gv_X5_67 hv_X5_readWord ⟨(Nat.le_of_ble_eq_true rfl), (Nat.le_of_ble_eq_true rfl)⟩ hl.1 rfl (Nat.le_of_ble_eq_true rfl) ⟨Nat.zero_le _, Nat.zero_le _⟩ dX5_readRule_56 (fun r74 N75 H locs hp w => ?_)
          obtain ⟨z76, rfl, bz76, hIN75, hFN75⟩ := hp
          have hGN75 := Fr.tr hGN58 hFN75 (S := (fun b9 k9 => (b9 = 4 ∧ k9 = 3) ∨ (b9 = 4 ∧ k9 = 4) ∨ (b9 = 4 ∧ k9 = 5) ∨ b9 = (u1 + 1))) (fun b k h => by (try dsimp only at h ⊢); (repeat' (refine Or.elim h ?_ ?_ <;> clear h <;> intro h)); all_goals first | (obtain ⟨rfl, rfl⟩ := h; decide) | (subst h; decide) | omega)
          refine z_if_eq (tgt := 72) hx hb (by omega) dX5_readRule_59 (by decide) (fun c77 => ?_) (fun c77 => ?_)
          · refine lv_aload_n hx hb dX5_readRule_72 rfl (lv_at hl 0 rfl) ?_
            refine f_5_0 F w (a := 4) rfl tb_469 dX5_readRule_73 ?_
            refine lv_aload_n hx hb dX5_readRule_76 rfl (lv_at hl 0 rfl) ?_
            refine f_5_3 F w (a := 4) rfl tb_471 dX5_readRule_77 ?_
            obtain ⟨z78, bz78, ez78⟩ := Inv.ld (k := 3) hIN75 (show iv 4 3 = ((-2147483648), 2147483647) from rfl) (show 4 < 146 by decide)
            refine r_val ez78 ?_
            refine k_Vi F w (As := [.int (zI z78)]) (rest := []) (a := 1) (kd_lt (a := 1) (show kd 1 = (8, 0, 0) from rfl) (by decide)) (sh_8 rfl _ _) rfl (q_X8_signAt (x := z78) (by omega)  hIN75) gv_X5_52 hv_X8_signAt ⟨(Nat.le_of_ble_eq_true rfl), (Nat.le_of_ble_eq_true rfl)⟩ hl.1 rfl (Nat.le_of_ble_eq_true rfl) ⟨Nat.zero_le _, Nat.zero_le _⟩ dX5_readRule_80 (fun r79 N80 H locs hp w => ?_)
            obtain ⟨z81, rfl, bz81, xz81, hMN80⟩ := hp
            rw [hMN80] at w
            refine lv_bipush (v := zI 59) hx hb dX5_readRule_83 (by decide) ?_
            refine z_icmp_eq (tgt := 90) hx hb (by omega) (by omega) dX5_readRule_85 (by decide) (fun c82 => ?_) (fun c82 => ?_)
            · refine lv_aload_n hx hb dX5_readRule_90 rfl (lv_at hl 0 rfl) ?_
              refine k_Vv F w (As := []) (rest := []) (a := 4) (kd_lt (a := 4) (show kd 4 = (5, 0, 0) from rfl) (by decide)) (sh_5 rfl _ _) rfl (q_X5_step   hIN75) gv_X5_36 hv_X5_step ⟨(Nat.le_of_ble_eq_true rfl), (Nat.le_of_ble_eq_true rfl)⟩ hl.1 rfl (Nat.le_of_ble_eq_true rfl) ⟨Nat.zero_le _, Nat.zero_le _⟩ dX5_readRule_91 (fun N84 H locs hp w => ?_)
              obtain ⟨hIN84, hFN84⟩ := hp
              have hGN84 := Fr.tr hGN75 hFN84 (S := (fun b9 k9 => (b9 = 4 ∧ k9 = 3) ∨ (b9 = 4 ∧ k9 = 4) ∨ (b9 = 4 ∧ k9 = 5) ∨ b9 = (u1 + 1))) (fun b k h => by (try dsimp only at h ⊢); (repeat' (refine Or.elim h ?_ ?_ <;> clear h <;> intro h)); all_goals first | (obtain ⟨rfl, rfl⟩ := h; decide) | (subst h; decide) | omega)
              refine lv_iconst (v := zI 1) hx hb dX5_readRule_94 rfl ?_
              rw [hQ]
              exact e_z F w hr hlocks (nar_z (by omega)) ⟨_, rfl, (by omega), hIN84, hGN84⟩ dX5_readRule_95
            · refine lv_iconst (v := zI 0) hx hb dX5_readRule_88 rfl ?_
              rw [hQ]
              exact e_z F w hr hlocks (nar_z (by omega)) ⟨_, rfl, (by omega), hIN75, hGN75⟩ dX5_readRule_89
          · refine lv_aload_n hx hb dX5_readRule_62 rfl (lv_at hl 0 rfl) ?_
            refine lv_aload_n hx hb dX5_readRule_63 rfl (lv_at hl 1 rfl) ?_
            refine k_Vi F w (As := [.ref (B + u1)]) (rest := []) (a := 4) (kd_lt (a := 4) (show kd 4 = (5, 0, 0) from rfl) (by decide)) (sh_5 rfl _ _) rfl (q_X5_readTest (u1 := u1) hku1  hIN75) gv_X5_89 hv_X5_readTest ⟨(Nat.le_of_ble_eq_true rfl), (Nat.le_of_ble_eq_true rfl)⟩ hl.1 rfl (Nat.le_of_ble_eq_true rfl) ⟨Nat.zero_le _, Nat.zero_le _⟩ dX5_readRule_64 (fun r86 N87 H locs hp w => ?_)
            obtain ⟨z88, rfl, bz88, hIN87, hFN87⟩ := hp
            have hGN87 := Fr.tr hGN75 hFN87 (S := (fun b9 k9 => (b9 = 4 ∧ k9 = 3) ∨ (b9 = 4 ∧ k9 = 4) ∨ (b9 = 4 ∧ k9 = 5) ∨ b9 = (u1 + 1))) (fun b k h => by (try dsimp only at h ⊢); (repeat' (refine Or.elim h ?_ ?_ <;> clear h <;> intro h)); all_goals first | (obtain ⟨rfl, rfl⟩ := h; decide) | (subst h; decide) | omega)
            refine z_if_ne (tgt := 72) hx hb (by omega) dX5_readRule_67 (by decide) (fun c89 => ?_) (fun c89 => ?_)
            · refine lv_aload_n hx hb dX5_readRule_72 rfl (lv_at hl 0 rfl) ?_
              refine f_5_0 F w (a := 4) rfl tb_469 dX5_readRule_73 ?_
              refine lv_aload_n hx hb dX5_readRule_76 rfl (lv_at hl 0 rfl) ?_
              refine f_5_3 F w (a := 4) rfl tb_471 dX5_readRule_77 ?_
              obtain ⟨z90, bz90, ez90⟩ := Inv.ld (k := 3) hIN87 (show iv 4 3 = ((-2147483648), 2147483647) from rfl) (show 4 < 146 by decide)
              refine r_val ez90 ?_
              refine k_Vi F w (As := [.int (zI z90)]) (rest := []) (a := 1) (kd_lt (a := 1) (show kd 1 = (8, 0, 0) from rfl) (by decide)) (sh_8 rfl _ _) rfl (q_X8_signAt (x := z90) (by omega)  hIN87) gv_X5_52 hv_X8_signAt ⟨(Nat.le_of_ble_eq_true rfl), (Nat.le_of_ble_eq_true rfl)⟩ hl.1 rfl (Nat.le_of_ble_eq_true rfl) ⟨Nat.zero_le _, Nat.zero_le _⟩ dX5_readRule_80 (fun r91 N92 H locs hp w => ?_)
              obtain ⟨z93, rfl, bz93, xz93, hMN92⟩ := hp
              rw [hMN92] at w
              refine lv_bipush (v := zI 59) hx hb dX5_readRule_83 (by decide) ?_
              refine z_icmp_eq (tgt := 90) hx hb (by omega) (by omega) dX5_readRule_85 (by decide) (fun c94 => ?_) (fun c94 => ?_)
              · refine lv_aload_n hx hb dX5_readRule_90 rfl (lv_at hl 0 rfl) ?_
                refine k_Vv F w (As := []) (rest := []) (a := 4) (kd_lt (a := 4) (show kd 4 = (5, 0, 0) from rfl) (by decide)) (sh_5 rfl _ _) rfl (q_X5_step   hIN87) gv_X5_36 hv_X5_step ⟨(Nat.le_of_ble_eq_true rfl), (Nat.le_of_ble_eq_true rfl)⟩ hl.1 rfl (Nat.le_of_ble_eq_true rfl) ⟨Nat.zero_le _, Nat.zero_le _⟩ dX5_readRule_91 (fun N96 H locs hp w => ?_)
                obtain ⟨hIN96, hFN96⟩ := hp
                have hGN96 := Fr.tr hGN87 hFN96 (S := (fun b9 k9 => (b9 = 4 ∧ k9 = 3) ∨ (b9 = 4 ∧ k9 = 4) ∨ (b9 = 4 ∧ k9 = 5) ∨ b9 = (u1 + 1))) (fun b k h => by (try dsimp only at h ⊢); (repeat' (refine Or.elim h ?_ ?_ <;> clear h <;> intro h)); all_goals first | (obtain ⟨rfl, rfl⟩ := h; decide) | (subst h; decide) | omega)
                refine lv_iconst (v := zI 1) hx hb dX5_readRule_94 rfl ?_
                rw [hQ]
                exact e_z F w hr hlocks (nar_z (by omega)) ⟨_, rfl, (by omega), hIN96, hGN96⟩ dX5_readRule_95
              · refine lv_iconst (v := zI 0) hx hb dX5_readRule_88 rfl ?_
                rw [hQ]
                exact e_z F w hr hlocks (nar_z (by omega)) ⟨_, rfl, (by omega), hIN87, hGN87⟩ dX5_readRule_89
            · refine lv_iconst (v := zI 0) hx hb dX5_readRule_70 rfl ?_
              rw [hQ]
              exact e_z F w hr hlocks (nar_z (by omega)) ⟨_, rfl, (by omega), hIN87, hGN87⟩ dX5_readRule_71
      · refine lv_iconst (v := zI 0) hx hb dX5_readRule_39 rfl ?_
        rw [hQ]
        exact e_z F w hr hlocks (nar_z (by omega)) ⟨_, rfl, (by omega), hIN58, hGN58⟩ dX5_readRule_40
theorem dX5_faultOfText_0 : decode cX5_faultOfText 0 = .ok (.aload_n 0, 1) := rdX5_faultOfText_0
theorem dX5_faultOfText_1 : decode cX5_faultOfText 1 = .ok (.iconst 0, 1) := rdX5_faultOfText_1
theorem dX5_faultOfText_2 : decode cX5_faultOfText 2 = .ok (.putfield 17, 3) := rdX5_faultOfText_2
theorem tb_510 : Cond.fieldLink "ToneLines$RuleReader" 17 "ToneLines$RuleReader" "read" "I" ∈ TB := rtb_77
theorem dX5_faultOfText_5 : decode cX5_faultOfText 5 = .ok (.aload_n 0, 1) := rdX5_faultOfText_5
theorem dX5_faultOfText_6 : decode cX5_faultOfText 6 = .ok (.iconst 0, 1) := rdX5_faultOfText_6
theorem dX5_faultOfText_7 : decode cX5_faultOfText 7 = .ok (.putfield 24, 3) := rdX5_faultOfText_7
theorem dX5_faultOfText_10 : decode cX5_faultOfText 10 = .ok (.aload_n 0, 1) := rdX5_faultOfText_10
theorem dX5_faultOfText_11 : decode cX5_faultOfText 11 = .ok (.invokevirtual 36, 3) := rdX5_faultOfText_11
theorem dX5_faultOfText_14 : decode cX5_faultOfText 14 = .ok (.aload_n 0, 1) := rdX5_faultOfText_14
theorem dX5_faultOfText_15 : decode cX5_faultOfText 15 = .ok (.getfield 21, 3) := rdX5_faultOfText_15
theorem dX5_faultOfText_18 : decode cX5_faultOfText 18 = .ok (.aload_n 0, 1) := rdX5_faultOfText_18
theorem dX5_faultOfText_19 : decode cX5_faultOfText 19 = .ok (.getfield 31, 3) := rdX5_faultOfText_19
theorem dX5_faultOfText_22 : decode cX5_faultOfText 22 = .ok (.getfield 39, 3) := rdX5_faultOfText_22
theorem dX5_faultOfText_25 : decode cX5_faultOfText 25 = .ok (.if_icmp .ge 46, 3) := rdX5_faultOfText_25
theorem dX5_faultOfText_71 : decode cX5_faultOfText 71 = .ok (.iconst (-1), 1) := rdX5_faultOfText_71
theorem dX5_faultOfText_72 : decode cX5_faultOfText 72 = .ok (.ireturn, 1) := rdX5_faultOfText_72
theorem dX5_faultOfText_28 : decode cX5_faultOfText 28 = .ok (.aload_n 0, 1) := rdX5_faultOfText_28
theorem dX5_faultOfText_29 : decode cX5_faultOfText 29 = .ok (.getfield 17, 3) := rdX5_faultOfText_29
theorem dX5_faultOfText_32 : decode cX5_faultOfText 32 = .ok (.bipush 8, 2) := rdX5_faultOfText_32
theorem dX5_faultOfText_34 : decode cX5_faultOfText 34 = .ok (.if_icmp .ge 19, 3) := rdX5_faultOfText_34
theorem dX5_faultOfText_37 : decode cX5_faultOfText 37 = .ok (.aload_n 0, 1) := rdX5_faultOfText_37
theorem dX5_faultOfText_38 : decode cX5_faultOfText 38 = .ok (.aload_n 0, 1) := rdX5_faultOfText_38
theorem dX5_faultOfText_39 : decode cX5_faultOfText 39 = .ok (.getfield 11, 3) := rdX5_faultOfText_39
theorem tb_511 : Cond.fieldLink "ToneLines$RuleReader" 11 "ToneLines$RuleReader" "drafts" "[LToneLines$Rule;" ∈ TB := rtb_78
theorem dX5_faultOfText_42 : decode cX5_faultOfText 42 = .ok (.aload_n 0, 1) := rdX5_faultOfText_42
theorem dX5_faultOfText_43 : decode cX5_faultOfText 43 = .ok (.getfield 17, 3) := rdX5_faultOfText_43
theorem dX5_faultOfText_46 : decode cX5_faultOfText 46 = .ok (.aaload, 1) := rdX5_faultOfText_46
theorem dX5_faultOfText_47 : decode cX5_faultOfText 47 = .ok (.invokevirtual 44, 3) := rdX5_faultOfText_47
theorem tk_X5_readRule : Cond.code yX5_readRule cX5_readRule 2 (some .boolean) ∈ TB := rtk_X5_readRule
theorem gc_X5_readRule : GoodIn TB (cw yX5_readRule cX5_readRule 2 (some .boolean)) := goodIn_c2 tk_X5_readRule
theorem tb_512 : Cond.methodLink "ToneLines$RuleReader" 44 yX5_readRule ∈ TB := rtb_79
theorem tb_513 : Cond.instanceMethod yX5_readRule ∈ TB := rtb_80
theorem tb_514 : Cond.selects "ToneLines$RuleReader" yX5_readRule yX5_readRule ∈ TB := rtb_81
theorem gv_X5_44 : GoodIn TB (wsV RX5 44 RX5 yX5_readRule (cw yX5_readRule cX5_readRule 2 (some .boolean))) := goodIn_4 tb_512 tb_513 tb_514 tb_477 gc_X5_readRule
theorem hv_X5_readRule : yX5_readRule.cls = RX5 ∧ yX5_readRule.cls ≠ "java/lang/invoke/MethodHandle" ∧ yX5_readRule.cls ≠ "java/lang/invoke/VarHandle" ∧ (parseMethodDescriptor yX5_readRule.desc).map (fun d => d.parameters.length) = some 1 := rhv_X5_readRule
theorem dX5_faultOfText_50 : decode cX5_faultOfText 50 = .ok (.ifCond .ne 8, 3) := rdX5_faultOfText_50
theorem dX5_faultOfText_58 : decode cX5_faultOfText 58 = .ok (.aload_n 0, 1) := rdX5_faultOfText_58
theorem dX5_faultOfText_59 : decode cX5_faultOfText 59 = .ok (.dup, 1) := rdX5_faultOfText_59
theorem dX5_faultOfText_60 : decode cX5_faultOfText 60 = .ok (.getfield 17, 3) := rdX5_faultOfText_60
theorem dX5_faultOfText_63 : decode cX5_faultOfText 63 = .ok (.iconst 1, 1) := rdX5_faultOfText_63
theorem dX5_faultOfText_64 : decode cX5_faultOfText 64 = .ok (.iadd, 1) := rdX5_faultOfText_64
theorem dX5_faultOfText_65 : decode cX5_faultOfText 65 = .ok (.putfield 17, 3) := rdX5_faultOfText_65
theorem dX5_faultOfText_68 : decode cX5_faultOfText 68 = .ok (.goto (-54), 3) := rdX5_faultOfText_68
theorem dX5_faultOfText_53 : decode cX5_faultOfText 53 = .ok (.aload_n 0, 1) := rdX5_faultOfText_53
theorem dX5_faultOfText_54 : decode cX5_faultOfText 54 = .ok (.getfield 21, 3) := rdX5_faultOfText_54
theorem dX5_faultOfText_57 : decode cX5_faultOfText 57 = .ok (.ireturn, 1) := rdX5_faultOfText_57
set_option maxRecDepth 4000 in
theorem q_X5_faultOfText {l : Launch} {D : va_G} {B : Nat} {cy : Nat → ClassId} {M : Mem}  (hI : Inv M) : Ci l D B cy yX5_faultOfText cX5_faultOfText 1 (some .int) 8 177 [.ref (B + 4)] M (fun r M1 => ∃ z : Int, r = zI z ∧ ((-2147483648) ≤ z ∧ z ≤ 2147483647) ∧ Inv M1 ∧ Fr (fun b9 k9 => (b9 = 4 ∧ k9 = 2) ∨ (b9 = 4 ∧ k9 = 3) ∨ (b9 = 4 ∧ k9 = 4) ∨ (b9 = 4 ∧ k9 = 5) ∨ (6 ≤ b9 ∧ b9 ≤ 21)) M1 M) := by
  refine s_anyQ (by decide) (Nat.le_of_ble_eq_true rfl) ?_
  intro p e s m args below meth c ls Q F hr hlocks hQ w hl
  have F : CallFix p m c cX5_faultOfText 1 s args TB RX5 := F
  have hx := F.1
  have hb := F.2.1
  have hl : lv_has ls 1 [(0, .ref (B + 4))] := hl
  have hF : Fr (fun b9 k9 => (b9 = 4 ∧ k9 = 2) ∨ (b9 = 4 ∧ k9 = 3) ∨ (b9 = 4 ∧ k9 = 4) ∨ (b9 = 4 ∧ k9 = 5) ∨ (6 ≤ b9 ∧ b9 ≤ 21)) M M := Fr.rf
  refine lv_aload_n hx hb dX5_faultOfText_0 rfl (lv_at hl 0 rfl) ?_
  refine lv_iconst (v := zI 0) hx hb dX5_faultOfText_1 rfl ?_
  refine u_5_2 F w (a := 4) rfl tb_510 dX5_faultOfText_2 (fun H locs w => ?_)
  refine lv_aload_n hx hb dX5_faultOfText_5 rfl (lv_at hl 0 rfl) ?_
  refine lv_iconst (v := zI 0) hx hb dX5_faultOfText_6 rfl ?_
  refine u_5_4 F w (a := 4) rfl tb_468 dX5_faultOfText_7 (fun H locs w => ?_)
  refine lv_aload_n hx hb dX5_faultOfText_10 rfl (lv_at hl 0 rfl) ?_
  refine k_Vv F w (As := []) (rest := []) (a := 4) (kd_lt (a := 4) (show kd 4 = (5, 0, 0) from rfl) (by decide)) (sh_5 rfl _ _) rfl (q_X5_step   (Inv.to (Inv.to hI (a := 4) (k := 2) (x := 0) (show iv 4 2 = (0, 8) from rfl) (by omega)) (a := 4) (k := 4) (x := 0) (show iv 4 4 = ((-2147483648), 2147483647) from rfl) (by omega))) gv_X5_36 hv_X5_step ⟨(Nat.le_of_ble_eq_true rfl), (Nat.le_of_ble_eq_true rfl)⟩ hl.1 rfl (Nat.le_of_ble_eq_true rfl) ⟨Nat.zero_le _, Nat.zero_le _⟩ dX5_faultOfText_11 (fun N2 H locs hp w => ?_)
  obtain ⟨hIN2, hFN2⟩ := hp
  have hGN2 := Fr.tr (Fr.to (Fr.to hF (by first | omega | (dsimp only; first | done | omega))) (by first | omega | (dsimp only; first | done | omega))) hFN2 (S := (fun b9 k9 => (b9 = 4 ∧ k9 = 2) ∨ (b9 = 4 ∧ k9 = 3) ∨ (b9 = 4 ∧ k9 = 4) ∨ (b9 = 4 ∧ k9 = 5) ∨ (6 ≤ b9 ∧ b9 ≤ 21))) (fun b k h => by (try dsimp only at h ⊢); (repeat' (refine Or.elim h ?_ ?_ <;> clear h <;> intro h)); all_goals first | (obtain ⟨rfl, rfl⟩ := h; decide) | (subst h; decide) | omega)
  have kn4 : N2.1 4 2 = zI 0 := (hFN2 4 2 (by first | omega | (dsimp only; omega))).trans ((st_ne (Or.inr (by decide))).trans st_at)
  have lp14 : ∀ (f : Nat)  (g4_2_14 : Int) (NL14 : Mem), (0 ≤ g4_2_14 ∧ g4_2_14 ≤ 8) → NL14.1 4 2 = zI g4_2_14 → Inv NL14 → Fr (fun b9 k9 => (b9 = 4 ∧ k9 = 2) ∨ (b9 = 4 ∧ k9 = 3) ∨ (b9 = 4 ∧ k9 = 4) ∨ (b9 = 4 ∧ k9 = 5) ∨ (6 ≤ b9 ∧ b9 ≤ 21)) NL14 M → (Int.toNat (8 - g4_2_14) < f) → ∀ (H : Heap) (locs : List Loc) (ls : Array Slot), Wd D B cy s s.heap NL14 H locs → lv_has ls 1 [(0, .ref (B + 4))] → W p l e (rmm 8 177) s m args below meth c H locs 0 0 Q (F0 m 14 ls []) := by
    intro f
    induction f with
    | zero => intros; omega
    | succ f ih14 =>
      intro  g4_2_14 NL14 ig4_2_14 eg4_2_14 hIL14 hFL14 hf14 H locs ls w hl
      refine lv_aload_n hx hb dX5_faultOfText_14 rfl (lv_at hl 0 rfl) ?_
      refine f_5_3 F w (a := 4) rfl tb_471 dX5_faultOfText_15 ?_
      obtain ⟨z5, bz5, ez5⟩ := Inv.ld (k := 3) hIL14 (show iv 4 3 = ((-2147483648), 2147483647) from rfl) (show 4 < 146 by decide)
      refine r_val ez5 ?_
      refine lv_aload_n hx hb dX5_faultOfText_18 rfl (lv_at hl 0 rfl) ?_
      refine f_5_0 F w (a := 4) rfl tb_469 dX5_faultOfText_19 ?_
      refine f_8_1 F w (a := 1) rfl tb_472 dX5_faultOfText_22 ?_
      obtain ⟨z6, bz6, ez6⟩ := Inv.ld (k := 1) hIL14 (show iv 1 1 = (0, 300) from rfl) (show 1 < 146 by decide)
      refine r_val ez6 ?_
      refine z_icmp_ge (tgt := 71) hx hb (by omega) (by omega) dX5_faultOfText_25 (by decide) (fun c7 => ?_) (fun c7 => ?_)
      · refine lv_iconst (v := zI (-1)) hx hb dX5_faultOfText_71 rfl ?_
        rw [hQ]
        exact e_i F w hr hlocks ⟨_, rfl, (by omega), hIL14, hFL14⟩ dX5_faultOfText_72
      · refine lv_aload_n hx hb dX5_faultOfText_28 rfl (lv_at hl 0 rfl) ?_
        refine f_5_2 F w (a := 4) rfl tb_510 dX5_faultOfText_29 ?_
        refine r_val (v := zI g4_2_14) (eg4_2_14) ?_
        refine lv_bipush (v := zI 8) hx hb dX5_faultOfText_32 (by decide) ?_
        refine z_icmp_ge (tgt := 53) hx hb (by omega) (by omega) dX5_faultOfText_34 (by decide) (fun c8 => ?_) (fun c8 => ?_)
        · refine lv_aload_n hx hb dX5_faultOfText_53 rfl (lv_at hl 0 rfl) ?_
          refine f_5_3 F w (a := 4) rfl tb_471 dX5_faultOfText_54 ?_
          refine r_val (v := zI z5) (ez5) ?_
          rw [hQ]
          exact e_i F w hr hlocks ⟨_, rfl, (by omega), hIL14, hFL14⟩ dX5_faultOfText_57
        · refine lv_aload_n hx hb dX5_faultOfText_37 rfl (lv_at hl 0 rfl) ?_
          refine lv_aload_n hx hb dX5_faultOfText_38 rfl (lv_at hl 0 rfl) ?_
          refine f_5_1 F w (a := 4) rfl tb_511 dX5_faultOfText_39 ?_
          refine lv_aload_n hx hb dX5_faultOfText_42 rfl (lv_at hl 0 rfl) ?_
          refine f_5_2 F w (a := 4) rfl tb_510 dX5_faultOfText_43 ?_
          refine r_val (v := zI g4_2_14) (eg4_2_14) ?_
          have hk9 := kd_dra (j := (Int.toNat g4_2_14)) (by omega)
          refine g_aldR F w (a := 5) rfl (j := (Int.toNat g4_2_14)) (o := (6 + 2 * (Int.toNat g4_2_14))) rfl (ix_z (by omega) (by omega)) (by omega) dX5_faultOfText_46 ?_
          refine k_Vi F w (As := [.ref (B + (6 + 2 * (Int.toNat g4_2_14)))]) (rest := []) (a := 4) (kd_lt (a := 4) (show kd 4 = (5, 0, 0) from rfl) (by decide)) (sh_5 rfl _ _) rfl (q_X5_readRule (u1 := (6 + 2 * (Int.toNat g4_2_14))) hk9  hIL14) gv_X5_44 hv_X5_readRule ⟨(Nat.le_of_ble_eq_true rfl), (Nat.le_of_ble_eq_true rfl)⟩ hl.1 rfl (Nat.le_of_ble_eq_true rfl) ⟨Nat.zero_le _, Nat.zero_le _⟩ dX5_faultOfText_47 (fun r10 N11 H locs hp w => ?_)
          obtain ⟨z12, rfl, bz12, hIN11, hFN11⟩ := hp
          have hGN11 := Fr.tr hFL14 hFN11 (S := (fun b9 k9 => (b9 = 4 ∧ k9 = 2) ∨ (b9 = 4 ∧ k9 = 3) ∨ (b9 = 4 ∧ k9 = 4) ∨ (b9 = 4 ∧ k9 = 5) ∨ (6 ≤ b9 ∧ b9 ≤ 21))) (fun b k h => by (try dsimp only at h ⊢); (repeat' (refine Or.elim h ?_ ?_ <;> clear h <;> intro h)); all_goals first | (obtain ⟨rfl, rfl⟩ := h; decide) | (subst h; decide) | omega)
          have kn13 : N11.1 4 2 = zI g4_2_14 := (hFN11 4 2 (by first | omega | (dsimp only; omega))).trans (eg4_2_14)
          have kn14 : N11.1 1 1 = zI z6 := (hFN11 1 1 (by first | omega | (dsimp only; omega))).trans (ez6)
          refine z_if_ne (tgt := 58) hx hb (by omega) dX5_faultOfText_50 (by decide) (fun c15 => ?_) (fun c15 => ?_)
          · refine lv_aload_n hx hb dX5_faultOfText_58 rfl (lv_at hl 0 rfl) ?_
            refine lv_dup hx hb dX5_faultOfText_59 rfl ?_
            refine f_5_2 F w (a := 4) rfl tb_510 dX5_faultOfText_60 ?_
            refine r_val (v := zI g4_2_14) (kn13) ?_
            refine lv_iconst (v := zI 1) hx hb dX5_faultOfText_63 rfl ?_
            refine z_iadd (z := (g4_2_14 + 1)) hx hb dX5_faultOfText_64 (by omega) ?_
            refine u_5_2 F w (a := 4) rfl tb_510 dX5_faultOfText_65 (fun H locs w => ?_)
            refine lv_goto (tgt := 14) hx hb dX5_faultOfText_68 (by decide) ?_
            exact ih14 (g4_2_14 + 1) (st N11 4 2 (zI (g4_2_14 + 1)))  (by omega) (st_at)  (Inv.to hIN11 (a := 4) (k := 2) (x := (g4_2_14 + 1)) (show iv 4 2 = (0, 8) from rfl) (by omega)) (Fr.to hGN11 (by first | omega | (dsimp only; first | done | omega))) (by omega) _ _ _ w (lv_sub hl [0] rfl)
          · refine lv_aload_n hx hb dX5_faultOfText_53 rfl (lv_at hl 0 rfl) ?_
            refine f_5_3 F w (a := 4) rfl tb_471 dX5_faultOfText_54 ?_
            obtain ⟨z16, bz16, ez16⟩ := Inv.ld (k := 3) hIN11 (show iv 4 3 = ((-2147483648), 2147483647) from rfl) (show 4 < 146 by decide)
            refine r_val ez16 ?_
            rw [hQ]
            exact e_i F w hr hlocks ⟨_, rfl, (by omega), hIN11, hGN11⟩ dX5_faultOfText_57
  exact lp14 _ 0 N2 (by omega) (kn4) hIN2 hGN2 (Nat.lt_succ_self _) _ _ _ w (lv_sub hl [0] rfl)
theorem dX11_word_0 : decode cX11_word 0 = .ok (.aload_n 0, 1) := udX11_word_0
theorem dX11_word_1 : decode cX11_word 1 = .ok (.getfield 21, 3) := udX11_word_1
theorem tb_515 : Cond.fieldLink "ToneLines" 21 "ToneLines" "wordReader" "LToneLines$WordReader;" ∈ TB := utb_72
theorem dX11_word_4 : decode cX11_word 4 = .ok (.aload_n 0, 1) := udX11_word_4
theorem dX11_word_5 : decode cX11_word 5 = .ok (.getfield 75, 3) := udX11_word_5
theorem dX11_word_8 : decode cX11_word 8 = .ok (.invokevirtual 86, 3) := udX11_word_8
theorem tk_X10_faultOf : Cond.code yX10_faultOf cX10_faultOf 3 (some .int) ∈ TB := utk_X10_faultOf
theorem gc_X10_faultOf : GoodIn TB (cw yX10_faultOf cX10_faultOf 3 (some .int)) := goodIn_c2 tk_X10_faultOf
theorem tb_516 : Cond.methodLink "ToneLines" 86 yX10_faultOf ∈ TB := utb_74
theorem tb_517 : Cond.instanceMethod yX10_faultOf ∈ TB := utb_75
theorem tb_518 : Cond.selects "ToneLines$WordReader" yX10_faultOf yX10_faultOf ∈ TB := utb_76
theorem gv_X11_86 : GoodIn TB (wsV RX11 86 RX10 yX10_faultOf (cw yX10_faultOf cX10_faultOf 3 (some .int))) := goodIn_4 tb_516 tb_517 tb_518 tb_452 gc_X10_faultOf
theorem hv_X10_faultOf : yX10_faultOf.cls = RX10 ∧ yX10_faultOf.cls ≠ "java/lang/invoke/MethodHandle" ∧ yX10_faultOf.cls ≠ "java/lang/invoke/VarHandle" ∧ (parseMethodDescriptor yX10_faultOf.desc).map (fun d => d.parameters.length) = some 1 := uhv_X10_faultOf
theorem dX11_word_11 : decode cX11_word 11 = .ok (.istore_n 1, 1) := udX11_word_11
theorem dX11_word_12 : decode cX11_word 12 = .ok (.aload_n 0, 1) := udX11_word_12
theorem dX11_word_13 : decode cX11_word 13 = .ok (.getfield 12, 3) := udX11_word_13
theorem dX11_word_16 : decode cX11_word 16 = .ok (.iconst 0, 1) := udX11_word_16
theorem dX11_word_17 : decode cX11_word 17 = .ok (.putfield 78, 3) := udX11_word_17
theorem dX11_word_20 : decode cX11_word 20 = .ok (.iload_n 1, 1) := udX11_word_20
theorem dX11_word_21 : decode cX11_word 21 = .ok (.iconst (-1), 1) := udX11_word_21
theorem dX11_word_22 : decode cX11_word 22 = .ok (.if_icmp .eq 8, 3) := udX11_word_22
theorem dX11_word_30 : decode cX11_word 30 = .ok (.aload_n 0, 1) := udX11_word_30
theorem dX11_word_31 : decode cX11_word 31 = .ok (.getfield 43, 3) := udX11_word_31
theorem dX11_word_34 : decode cX11_word 34 = .ok (.aload_n 0, 1) := udX11_word_34
theorem dX11_word_35 : decode cX11_word 35 = .ok (.getfield 75, 3) := udX11_word_35
theorem dX11_word_38 : decode cX11_word 38 = .ok (.invokevirtual 90, 3) := udX11_word_38
theorem dX11_word_41 : decode cX11_word 41 = .ok (.aload_n 0, 1) := udX11_word_41
theorem dX11_word_42 : decode cX11_word 42 = .ok (.getfield 47, 3) := udX11_word_42
theorem dX11_word_45 : decode cX11_word 45 = .ok (.iconst 0, 1) := udX11_word_45
theorem dX11_word_46 : decode cX11_word 46 = .ok (.putfield 94, 3) := udX11_word_46
theorem dX11_word_49 : decode cX11_word 49 = .ok (.aload_n 0, 1) := udX11_word_49
theorem dX11_word_50 : decode cX11_word 50 = .ok (.invokevirtual 97, 3) := udX11_word_50
theorem dX11_word_53 : decode cX11_word 53 = .ok (.aload_n 0, 1) := udX11_word_53
theorem dX11_word_54 : decode cX11_word 54 = .ok (.getfield 43, 3) := udX11_word_54
theorem dX11_word_57 : decode cX11_word 57 = .ok (.getfield 100, 3) := udX11_word_57
theorem dX11_word_60 : decode cX11_word 60 = .ok (.ireturn, 1) := udX11_word_60
theorem dX11_word_25 : decode cX11_word 25 = .ok (.bipush (-4), 2) := udX11_word_25
theorem dX11_word_27 : decode cX11_word 27 = .ok (.iload_n 1, 1) := udX11_word_27
theorem dX11_word_28 : decode cX11_word 28 = .ok (.isub, 1) := udX11_word_28
theorem dX11_word_29 : decode cX11_word 29 = .ok (.ireturn, 1) := udX11_word_29
set_option maxRecDepth 4000 in
theorem q_X11_word {l : Launch} {D : va_G} {B : Nat} {cy : Nat → ClassId} {M : Mem}  (hI : Inv M) : Ci l D B cy yX11_word cX11_word 2 (some .int) 6 136 [.ref (B + 0)] M (fun r M1 => ∃ z : Int, r = zI z ∧ ((-2147483648) ≤ z ∧ z ≤ 2147483647) ∧ Inv M1 ∧ Fr (fun b9 k9 => (b9 = 1 ∧ k9 = 1) ∨ (b9 = 109 ∧ k9 = 0) ∨ (b9 = 22 ∧ k9 = 7) ∨ (b9 = 3 ∧ k9 = 1) ∨ (b9 = 71 ∧ k9 = 2) ∨ b9 = 135 ∨ b9 = 143 ∨ b9 = 144 ∨ b9 = 145 ∨ b9 = 44 ∨ b9 = 45 ∨ b9 = 46) M1 M) := by
  refine s_anyQ (by decide) (Nat.le_of_ble_eq_true rfl) ?_
  intro p e s m args below meth c ls Q F hr hlocks hQ w hl
  have F : CallFix p m c cX11_word 2 s args TB RX11 := F
  have hx := F.1
  have hb := F.2.1
  have hl : lv_has ls 2 [(0, .ref (B + 0))] := hl
  have hF : Fr (fun b9 k9 => (b9 = 1 ∧ k9 = 1) ∨ (b9 = 109 ∧ k9 = 0) ∨ (b9 = 22 ∧ k9 = 7) ∨ (b9 = 3 ∧ k9 = 1) ∨ (b9 = 71 ∧ k9 = 2) ∨ b9 = 135 ∨ b9 = 143 ∨ b9 = 144 ∨ b9 = 145 ∨ b9 = 44 ∨ b9 = 45 ∨ b9 = 46) M M := Fr.rf
  refine lv_aload_n hx hb dX11_word_0 rfl (lv_at hl 0 rfl) ?_
  refine f_11_1 F w (a := 0) rfl tb_515 dX11_word_1 ?_
  refine lv_aload_n hx hb dX11_word_4 rfl (lv_at hl 0 rfl) ?_
  refine f_11_9 F w (a := 0) rfl tb_324 dX11_word_5 ?_
  refine k_Vi F w (As := [.ref (B + 143)]) (rest := []) (a := 3) (kd_lt (a := 3) (show kd 3 = (10, 0, 0) from rfl) (by decide)) (sh_10 rfl _ _) rfl (q_X10_faultOf (a := 143) rfl  hI) gv_X11_86 hv_X10_faultOf ⟨(Nat.le_of_ble_eq_true rfl), (Nat.le_of_ble_eq_true rfl)⟩ hl.1 rfl (Nat.le_of_ble_eq_true rfl) ⟨Nat.zero_le _, Nat.zero_le _⟩ dX11_word_8 (fun r1 N2 H locs hp w => ?_)
  obtain ⟨z3, rfl, bz3, hIN2, hFN2⟩ := hp
  have hGN2 := Fr.tr hF hFN2 (S := (fun b9 k9 => (b9 = 1 ∧ k9 = 1) ∨ (b9 = 109 ∧ k9 = 0) ∨ (b9 = 22 ∧ k9 = 7) ∨ (b9 = 3 ∧ k9 = 1) ∨ (b9 = 71 ∧ k9 = 2) ∨ b9 = 135 ∨ b9 = 143 ∨ b9 = 144 ∨ b9 = 145 ∨ b9 = 44 ∨ b9 = 45 ∨ b9 = 46)) (fun b k h => by (try dsimp only at h ⊢); (repeat' (refine Or.elim h ?_ ?_ <;> clear h <;> intro h)); all_goals first | (obtain ⟨rfl, rfl⟩ := h; decide) | (subst h; decide) | omega)
  refine lv_istore_n (lv' := [(1, .int (zI z3)), (0, .ref (B + 0))]) hx hb dX11_word_11 rfl hl (by decide) rfl (fun ls hl => ?_)
  refine lv_aload_n hx hb dX11_word_12 rfl (lv_at hl 1 rfl) ?_
  refine f_11_0 F w (a := 0) rfl tb_292 dX11_word_13 ?_
  refine lv_iconst (v := zI 0) hx hb dX11_word_16 rfl ?_
  refine u_8_1 F w (a := 1) rfl tb_293 dX11_word_17 (fun H locs w => ?_)
  refine lv_iload_n hx hb dX11_word_20 rfl (lv_at hl 0 rfl) ?_
  refine lv_iconst (v := zI (-1)) hx hb dX11_word_21 rfl ?_
  refine z_icmp_eq (tgt := 30) hx hb (by omega) (by omega) dX11_word_22 (by decide) (fun c4 => ?_) (fun c4 => ?_)
  · refine lv_aload_n hx hb dX11_word_30 rfl (lv_at hl 1 rfl) ?_
    refine f_11_4 F w (a := 0) rfl tb_280 dX11_word_31 ?_
    refine lv_aload_n hx hb dX11_word_34 rfl (lv_at hl 1 rfl) ?_
    refine f_11_9 F w (a := 0) rfl tb_324 dX11_word_35 ?_
    refine k_Vv F w (As := [.ref (B + 143)]) (rest := []) (a := 44) (kd_lt (a := 44) (show kd 44 = (9, 0, 0) from rfl) (by decide)) (sh_9 rfl _ _) rfl (q_X9_copyFrom (a := 44) rfl (d := 143) rfl  (Inv.to hIN2 (a := 1) (k := 1) (x := 0) (show iv 1 1 = (0, 300) from rfl) (by omega))) gv_X11_90 hv_X9_copyFrom ⟨(Nat.le_of_ble_eq_true rfl), (Nat.le_of_ble_eq_true rfl)⟩ hl.1 rfl (Nat.le_of_ble_eq_true rfl) ⟨Nat.zero_le _, Nat.zero_le _⟩ dX11_word_38 (fun N6 H locs hp w => ?_)
    obtain ⟨hIN6, hFN6⟩ := hp
    have hGN6 := Fr.tr (Fr.to hGN2 (by first | omega | (dsimp only; first | done | omega))) hFN6 (S := (fun b9 k9 => (b9 = 1 ∧ k9 = 1) ∨ (b9 = 109 ∧ k9 = 0) ∨ (b9 = 22 ∧ k9 = 7) ∨ (b9 = 3 ∧ k9 = 1) ∨ (b9 = 71 ∧ k9 = 2) ∨ b9 = 135 ∨ b9 = 143 ∨ b9 = 144 ∨ b9 = 145 ∨ b9 = 44 ∨ b9 = 45 ∨ b9 = 46)) (fun b k h => by (try dsimp only at h ⊢); (repeat' (refine Or.elim h ?_ ?_ <;> clear h <;> intro h)); all_goals first | (obtain ⟨rfl, rfl⟩ := h; decide) | (subst h; decide) | omega)
    have kn8 : N6.1 1 1 = zI 0 := (hFN6 1 1 (by first | omega | (dsimp only; omega))).trans (st_at)
    refine lv_aload_n hx hb dX11_word_41 rfl (lv_at hl 1 rfl) ?_
    refine f_11_5 F w (a := 0) rfl tb_279 dX11_word_42 ?_
    refine lv_iconst (v := zI 0) hx hb dX11_word_45 rfl ?_
    refine u_2_2 F w (a := 71) rfl tb_338 dX11_word_46 (fun H locs w => ?_)
    refine lv_aload_n hx hb dX11_word_49 rfl (lv_at hl 1 rfl) ?_
    refine k_Vv F w (As := []) (rest := []) (a := 0) (kd_lt (a := 0) (show kd 0 = (11, 0, 0) from rfl) (by decide)) (sh_11 rfl _ _) rfl (q_X11_outdate   (Inv.to hIN6 (a := 71) (k := 2) (x := 0) (show iv 71 2 = (0, 12) from rfl) (by omega))) gv_X11_97 hv_X11_outdate ⟨(Nat.le_of_ble_eq_true rfl), (Nat.le_of_ble_eq_true rfl)⟩ hl.1 rfl (Nat.le_of_ble_eq_true rfl) ⟨Nat.zero_le _, Nat.zero_le _⟩ dX11_word_50 (fun N10 H locs hp w => ?_)
    obtain ⟨hIN10, hFN10⟩ := hp
    have hGN10 := Fr.tr (Fr.to hGN6 (by first | omega | (dsimp only; first | done | omega))) hFN10 (S := (fun b9 k9 => (b9 = 1 ∧ k9 = 1) ∨ (b9 = 109 ∧ k9 = 0) ∨ (b9 = 22 ∧ k9 = 7) ∨ (b9 = 3 ∧ k9 = 1) ∨ (b9 = 71 ∧ k9 = 2) ∨ b9 = 135 ∨ b9 = 143 ∨ b9 = 144 ∨ b9 = 145 ∨ b9 = 44 ∨ b9 = 45 ∨ b9 = 46)) (fun b k h => by (try dsimp only at h ⊢); (repeat' (refine Or.elim h ?_ ?_ <;> clear h <;> intro h)); all_goals first | (obtain ⟨rfl, rfl⟩ := h; decide) | (subst h; decide) | omega)
    have kn12 : N10.1 1 1 = zI 0 := (hFN10 1 1 (by first | omega | (dsimp only; omega))).trans ((st_ne (Or.inl (by decide))).trans kn8)
    have kn13 : N10.1 71 2 = zI 0 := (hFN10 71 2 (by first | omega | (dsimp only; omega))).trans (st_at)
    refine lv_aload_n hx hb dX11_word_53 rfl (lv_at hl 1 rfl) ?_
    refine f_11_4 F w (a := 0) rfl tb_280 dX11_word_54 ?_
    refine f_9_0 F w (a := 44) rfl tb_303 dX11_word_57 ?_
    obtain ⟨z14, bz14, ez14⟩ := Inv.ld (k := 0) hIN10 (show iv 44 0 = (0, 12) from rfl) (show 44 < 146 by decide)
    refine r_val ez14 ?_
    rw [hQ]
    exact e_i F w hr hlocks ⟨_, rfl, (by omega), hIN10, hGN10⟩ dX11_word_60
  · refine lv_bipush (v := zI (-4)) hx hb dX11_word_25 (by decide) ?_
    refine lv_iload_n hx hb dX11_word_27 rfl (lv_at hl 0 rfl) ?_
    obtain ⟨z15, bz15, x0z15, ez15⟩ := sub_ex (-4) z3
    refine lv_isub hx hb dX11_word_28 ?_
    refine r_val ez15 ?_
    rw [hQ]
    exact e_i F w hr hlocks ⟨_, rfl, (by omega), (Inv.to hIN2 (a := 1) (k := 1) (x := 0) (show iv 1 1 = (0, 300) from rfl) (by omega)), (Fr.to hGN2 (by first | omega | (dsimp only; first | done | omega)))⟩ dX11_word_29
theorem dX11_rules_0 : decode cX11_rules 0 = .ok (.aload_n 0, 1) := rdX11_rules_0
theorem dX11_rules_1 : decode cX11_rules 1 = .ok (.getfield 28, 3) := rdX11_rules_1
theorem tb_519 : Cond.fieldLink "ToneLines" 28 "ToneLines" "ruleReader" "LToneLines$RuleReader;" ∈ TB := rtb_101
theorem dX11_rules_4 : decode cX11_rules 4 = .ok (.invokevirtual 103, 3) := rdX11_rules_4
theorem tk_X5_faultOfText : Cond.code yX5_faultOfText cX5_faultOfText 1 (some .int) ∈ TB := rtk_X5_faultOfText
theorem gc_X5_faultOfText : GoodIn TB (cw yX5_faultOfText cX5_faultOfText 1 (some .int)) := goodIn_c2 tk_X5_faultOfText
theorem tb_520 : Cond.methodLink "ToneLines" 103 yX5_faultOfText ∈ TB := rtb_102
theorem tb_521 : Cond.instanceMethod yX5_faultOfText ∈ TB := rtb_103
theorem tb_522 : Cond.selects "ToneLines$RuleReader" yX5_faultOfText yX5_faultOfText ∈ TB := rtb_104
theorem gv_X11_103 : GoodIn TB (wsV RX11 103 RX5 yX5_faultOfText (cw yX5_faultOfText cX5_faultOfText 1 (some .int))) := goodIn_4 tb_520 tb_521 tb_522 tb_477 gc_X5_faultOfText
theorem hv_X5_faultOfText : yX5_faultOfText.cls = RX5 ∧ yX5_faultOfText.cls ≠ "java/lang/invoke/MethodHandle" ∧ yX5_faultOfText.cls ≠ "java/lang/invoke/VarHandle" ∧ (parseMethodDescriptor yX5_faultOfText.desc).map (fun d => d.parameters.length) = some 0 := rhv_X5_faultOfText
theorem dX11_rules_7 : decode cX11_rules 7 = .ok (.istore_n 1, 1) := rdX11_rules_7
theorem dX11_rules_8 : decode cX11_rules 8 = .ok (.aload_n 0, 1) := rdX11_rules_8
theorem dX11_rules_9 : decode cX11_rules 9 = .ok (.getfield 12, 3) := rdX11_rules_9
theorem dX11_rules_12 : decode cX11_rules 12 = .ok (.iconst 0, 1) := rdX11_rules_12
theorem dX11_rules_13 : decode cX11_rules 13 = .ok (.putfield 78, 3) := rdX11_rules_13
theorem dX11_rules_16 : decode cX11_rules 16 = .ok (.iload_n 1, 1) := rdX11_rules_16
theorem dX11_rules_17 : decode cX11_rules 17 = .ok (.iconst (-1), 1) := rdX11_rules_17
theorem dX11_rules_18 : decode cX11_rules 18 = .ok (.if_icmp .eq 8, 3) := rdX11_rules_18
theorem dX11_rules_26 : decode cX11_rules 26 = .ok (.aload_n 0, 1) := rdX11_rules_26
theorem dX11_rules_27 : decode cX11_rules 27 = .ok (.getfield 35, 3) := rdX11_rules_27
theorem dX11_rules_30 : decode cX11_rules 30 = .ok (.aload_n 0, 1) := rdX11_rules_30
theorem dX11_rules_31 : decode cX11_rules 31 = .ok (.getfield 28, 3) := rdX11_rules_31
theorem dX11_rules_34 : decode cX11_rules 34 = .ok (.getfield 107, 3) := rdX11_rules_34
theorem tb_523 : Cond.fieldLink "ToneLines" 107 "ToneLines$RuleReader" "drafts" "[LToneLines$Rule;" ∈ TB := rtb_107
theorem dX11_rules_37 : decode cX11_rules 37 = .ok (.aload_n 0, 1) := rdX11_rules_37
theorem dX11_rules_38 : decode cX11_rules 38 = .ok (.getfield 28, 3) := rdX11_rules_38
theorem dX11_rules_41 : decode cX11_rules 41 = .ok (.getfield 111, 3) := rdX11_rules_41
theorem tb_524 : Cond.fieldLink "ToneLines" 111 "ToneLines$RuleReader" "read" "I" ∈ TB := rtb_108
theorem dX11_rules_44 : decode cX11_rules 44 = .ok (.invokevirtual 114, 3) := rdX11_rules_44
theorem tk_X0_takeRules : Cond.code yX0_takeRules cX0_takeRules 4 none ∈ TB := rtk_X0_takeRules
theorem gc_X0_takeRules : GoodIn TB (cw yX0_takeRules cX0_takeRules 4 none) := goodIn_c2 tk_X0_takeRules
theorem tb_525 : Cond.methodLink "ToneLines" 114 yX0_takeRules ∈ TB := rtb_109
theorem tb_526 : Cond.instanceMethod yX0_takeRules ∈ TB := rtb_110
theorem tb_527 : Cond.selects "ToneLines$Derivation" yX0_takeRules yX0_takeRules ∈ TB := rtb_111
theorem gv_X11_114 : GoodIn TB (wsV RX11 114 RX0 yX0_takeRules (cw yX0_takeRules cX0_takeRules 4 none)) := goodIn_4 tb_525 tb_526 tb_527 tb_187 gc_X0_takeRules
theorem hv_X0_takeRules : yX0_takeRules.cls = RX0 ∧ yX0_takeRules.cls ≠ "java/lang/invoke/MethodHandle" ∧ yX0_takeRules.cls ≠ "java/lang/invoke/VarHandle" ∧ (parseMethodDescriptor yX0_takeRules.desc).map (fun d => d.parameters.length) = some 2 := rhv_X0_takeRules
theorem dX11_rules_47 : decode cX11_rules 47 = .ok (.aload_n 0, 1) := rdX11_rules_47
theorem dX11_rules_48 : decode cX11_rules 48 = .ok (.invokevirtual 97, 3) := rdX11_rules_48
theorem dX11_rules_51 : decode cX11_rules 51 = .ok (.aload_n 0, 1) := rdX11_rules_51
theorem dX11_rules_52 : decode cX11_rules 52 = .ok (.getfield 35, 3) := rdX11_rules_52
theorem dX11_rules_55 : decode cX11_rules 55 = .ok (.getfield 118, 3) := rdX11_rules_55
theorem dX11_rules_58 : decode cX11_rules 58 = .ok (.ireturn, 1) := rdX11_rules_58
theorem dX11_rules_21 : decode cX11_rules 21 = .ok (.bipush (-4), 2) := rdX11_rules_21
theorem dX11_rules_23 : decode cX11_rules 23 = .ok (.iload_n 1, 1) := rdX11_rules_23
theorem dX11_rules_24 : decode cX11_rules 24 = .ok (.isub, 1) := rdX11_rules_24
theorem dX11_rules_25 : decode cX11_rules 25 = .ok (.ireturn, 1) := rdX11_rules_25
set_option maxHeartbeats 4000000 in
set_option maxRecDepth 4000 in
theorem q_X11_rules {l : Launch} {D : va_G} {B : Nat} {cy : Nat → ClassId} {M : Mem}  (hI : Inv M) : Ci l D B cy yX11_rules cX11_rules 2 (some .int) 9 197 [.ref (B + 0)] M (fun r M1 => ∃ z : Int, r = zI z ∧ ((-2147483648) ≤ z ∧ z ≤ 2147483647) ∧ Inv M1 ∧ Fr (fun b9 k9 => (b9 = 1 ∧ k9 = 1) ∨ (b9 = 109 ∧ k9 = 0) ∨ (b9 = 22 ∧ k9 = 2) ∨ (b9 = 22 ∧ k9 = 7) ∨ (b9 = 4 ∧ k9 = 2) ∨ (b9 = 4 ∧ k9 = 3) ∨ (b9 = 4 ∧ k9 = 4) ∨ (b9 = 4 ∧ k9 = 5) ∨ b9 = 135 ∨ (28 ≤ b9 ∧ b9 ≤ 43) ∨ (6 ≤ b9 ∧ b9 ≤ 21)) M1 M) := by
  refine s_anyQ (by decide) (Nat.le_of_ble_eq_true rfl) ?_
  intro p e s m args below meth c ls Q F hr hlocks hQ w hl
  have F : CallFix p m c cX11_rules 2 s args TB RX11 := F
  have hx := F.1
  have hb := F.2.1
  have hl : lv_has ls 2 [(0, .ref (B + 0))] := hl
  have hF : Fr (fun b9 k9 => (b9 = 1 ∧ k9 = 1) ∨ (b9 = 109 ∧ k9 = 0) ∨ (b9 = 22 ∧ k9 = 2) ∨ (b9 = 22 ∧ k9 = 7) ∨ (b9 = 4 ∧ k9 = 2) ∨ (b9 = 4 ∧ k9 = 3) ∨ (b9 = 4 ∧ k9 = 4) ∨ (b9 = 4 ∧ k9 = 5) ∨ b9 = 135 ∨ (28 ≤ b9 ∧ b9 ≤ 43) ∨ (6 ≤ b9 ∧ b9 ≤ 21)) M M := Fr.rf
  refine lv_aload_n hx hb dX11_rules_0 rfl (lv_at hl 0 rfl) ?_
  refine f_11_2 F w (a := 0) rfl tb_519 dX11_rules_1 ?_
  refine k_Vi F w (As := []) (rest := []) (a := 4) (kd_lt (a := 4) (show kd 4 = (5, 0, 0) from rfl) (by decide)) (sh_5 rfl _ _) rfl (q_X5_faultOfText   hI) gv_X11_103 hv_X5_faultOfText ⟨(Nat.le_of_ble_eq_true rfl), (Nat.le_of_ble_eq_true rfl)⟩ hl.1 rfl (Nat.le_of_ble_eq_true rfl) ⟨Nat.zero_le _, Nat.zero_le _⟩ dX11_rules_4 (fun r1 N2 H locs hp w => ?_)
  obtain ⟨z3, rfl, bz3, hIN2, hFN2⟩ := hp
  have hGN2 := Fr.tr hF hFN2 (S := (fun b9 k9 => (b9 = 1 ∧ k9 = 1) ∨ (b9 = 109 ∧ k9 = 0) ∨ (b9 = 22 ∧ k9 = 2) ∨ (b9 = 22 ∧ k9 = 7) ∨ (b9 = 4 ∧ k9 = 2) ∨ (b9 = 4 ∧ k9 = 3) ∨ (b9 = 4 ∧ k9 = 4) ∨ (b9 = 4 ∧ k9 = 5) ∨ b9 = 135 ∨ (28 ≤ b9 ∧ b9 ≤ 43) ∨ (6 ≤ b9 ∧ b9 ≤ 21))) (fun b k h => by (try dsimp only at h ⊢); (repeat' (refine Or.elim h ?_ ?_ <;> clear h <;> intro h)); all_goals first | (obtain ⟨rfl, rfl⟩ := h; decide) | (subst h; decide) | omega)
  refine lv_istore_n (lv' := [(1, .int (zI z3)), (0, .ref (B + 0))]) hx hb dX11_rules_7 rfl hl (by decide) rfl (fun ls hl => ?_)
  refine lv_aload_n hx hb dX11_rules_8 rfl (lv_at hl 1 rfl) ?_
  refine f_11_0 F w (a := 0) rfl tb_292 dX11_rules_9 ?_
  refine lv_iconst (v := zI 0) hx hb dX11_rules_12 rfl ?_
  refine u_8_1 F w (a := 1) rfl tb_293 dX11_rules_13 (fun H locs w => ?_)
  refine lv_iload_n hx hb dX11_rules_16 rfl (lv_at hl 0 rfl) ?_
  refine lv_iconst (v := zI (-1)) hx hb dX11_rules_17 rfl ?_
  refine z_icmp_eq (tgt := 26) hx hb (by omega) (by omega) dX11_rules_18 (by decide) (fun c4 => ?_) (fun c4 => ?_)
  · refine lv_aload_n hx hb dX11_rules_26 rfl (lv_at hl 1 rfl) ?_
    refine f_11_3 F w (a := 0) rfl tb_273 dX11_rules_27 ?_
    refine lv_aload_n hx hb dX11_rules_30 rfl (lv_at hl 1 rfl) ?_
    refine f_11_2 F w (a := 0) rfl tb_519 dX11_rules_31 ?_
    refine f_5_1 F w (a := 4) rfl tb_523 dX11_rules_34 ?_
    refine lv_aload_n hx hb dX11_rules_37 rfl (lv_at hl 1 rfl) ?_
    refine f_11_2 F w (a := 0) rfl tb_519 dX11_rules_38 ?_
    refine f_5_2 F w (a := 4) rfl tb_524 dX11_rules_41 ?_
    obtain ⟨z5, bz5, ez5⟩ := Inv.ld (k := 2) (Inv.to hIN2 (a := 1) (k := 1) (x := 0) (show iv 1 1 = (0, 300) from rfl) (by omega)) (show iv 4 2 = (0, 8) from rfl) (show 4 < 146 by decide)
    refine r_val ez5 ?_
    refine k_Vv F w (As := [.ref (B + 5), .int (zI z5)]) (rest := []) (a := 22) (kd_lt (a := 22) (show kd 22 = (0, 0, 0) from rfl) (by decide)) (sh_0 rfl _ _) rfl (q_X0_takeRules (x := z5) (by omega)  (Inv.to hIN2 (a := 1) (k := 1) (x := 0) (show iv 1 1 = (0, 300) from rfl) (by omega))) gv_X11_114 hv_X0_takeRules ⟨(Nat.le_of_ble_eq_true rfl), (Nat.le_of_ble_eq_true rfl)⟩ hl.1 rfl (Nat.le_of_ble_eq_true rfl) ⟨Nat.zero_le _, Nat.zero_le _⟩ dX11_rules_44 (fun N7 H locs hp w => ?_)
    obtain ⟨hIN7, hFN7⟩ := hp
    have hGN7 := Fr.tr (Fr.to hGN2 (by first | omega | (dsimp only; first | done | omega))) hFN7 (S := (fun b9 k9 => (b9 = 1 ∧ k9 = 1) ∨ (b9 = 109 ∧ k9 = 0) ∨ (b9 = 22 ∧ k9 = 2) ∨ (b9 = 22 ∧ k9 = 7) ∨ (b9 = 4 ∧ k9 = 2) ∨ (b9 = 4 ∧ k9 = 3) ∨ (b9 = 4 ∧ k9 = 4) ∨ (b9 = 4 ∧ k9 = 5) ∨ b9 = 135 ∨ (28 ≤ b9 ∧ b9 ≤ 43) ∨ (6 ≤ b9 ∧ b9 ≤ 21))) (fun b k h => by (try dsimp only at h ⊢); (repeat' (refine Or.elim h ?_ ?_ <;> clear h <;> intro h)); all_goals first | (obtain ⟨rfl, rfl⟩ := h; decide) | (subst h; decide) | omega)
    have kn9 : N7.1 1 1 = zI 0 := (hFN7 1 1 (by first | omega | (dsimp only; omega))).trans (st_at)
    refine lv_aload_n hx hb dX11_rules_47 rfl (lv_at hl 1 rfl) ?_
    refine k_Vv F w (As := []) (rest := []) (a := 0) (kd_lt (a := 0) (show kd 0 = (11, 0, 0) from rfl) (by decide)) (sh_11 rfl _ _) rfl (q_X11_outdate   hIN7) gv_X11_97 hv_X11_outdate ⟨(Nat.le_of_ble_eq_true rfl), (Nat.le_of_ble_eq_true rfl)⟩ hl.1 rfl (Nat.le_of_ble_eq_true rfl) ⟨Nat.zero_le _, Nat.zero_le _⟩ dX11_rules_48 (fun N11 H locs hp w => ?_)
    obtain ⟨hIN11, hFN11⟩ := hp
    have hGN11 := Fr.tr hGN7 hFN11 (S := (fun b9 k9 => (b9 = 1 ∧ k9 = 1) ∨ (b9 = 109 ∧ k9 = 0) ∨ (b9 = 22 ∧ k9 = 2) ∨ (b9 = 22 ∧ k9 = 7) ∨ (b9 = 4 ∧ k9 = 2) ∨ (b9 = 4 ∧ k9 = 3) ∨ (b9 = 4 ∧ k9 = 4) ∨ (b9 = 4 ∧ k9 = 5) ∨ b9 = 135 ∨ (28 ≤ b9 ∧ b9 ≤ 43) ∨ (6 ≤ b9 ∧ b9 ≤ 21))) (fun b k h => by (try dsimp only at h ⊢); (repeat' (refine Or.elim h ?_ ?_ <;> clear h <;> intro h)); all_goals first | (obtain ⟨rfl, rfl⟩ := h; decide) | (subst h; decide) | omega)
    have kn13 : N11.1 1 1 = zI 0 := (hFN11 1 1 (by first | omega | (dsimp only; omega))).trans (kn9)
    refine lv_aload_n hx hb dX11_rules_51 rfl (lv_at hl 1 rfl) ?_
    refine f_11_3 F w (a := 0) rfl tb_273 dX11_rules_52 ?_
    refine f_0_2 F w (a := 22) rfl tb_379 dX11_rules_55 ?_
    obtain ⟨z14, bz14, ez14⟩ := Inv.ld (k := 2) hIN11 (show iv 22 2 = (0, 8) from rfl) (show 22 < 146 by decide)
    refine r_val ez14 ?_
    rw [hQ]
    exact e_i F w hr hlocks ⟨_, rfl, (by omega), hIN11, hGN11⟩ dX11_rules_58
  · refine lv_bipush (v := zI (-4)) hx hb dX11_rules_21 (by decide) ?_
    refine lv_iload_n hx hb dX11_rules_23 rfl (lv_at hl 0 rfl) ?_
    obtain ⟨z15, bz15, x0z15, ez15⟩ := sub_ex (-4) z3
    refine lv_isub hx hb dX11_rules_24 ?_
    refine r_val ez15 ?_
    rw [hQ]
    exact e_i F w hr hlocks ⟨_, rfl, (by omega), (Inv.to hIN2 (a := 1) (k := 1) (x := 0) (show iv 1 1 = (0, 300) from rfl) (by omega)), (Fr.to hGN2 (by first | omega | (dsimp only; first | done | omega)))⟩ dX11_rules_25
