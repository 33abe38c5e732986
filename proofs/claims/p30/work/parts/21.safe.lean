set_option maxRecDepth 4000 in
theorem q_X4_isOf {l : Launch} {D : va_G} {B : Nat} {cy : Nat → ClassId} {M : Mem} {u1 : Nat} (hku1 : kd u1 = (4, 0, 0)) {x : Int} (hx : (-2147483648) ≤ x ∧ x ≤ 2147483647) (hI : Inv M) : Ci l D B cy yX4_isOf cX4_isOf 2 (some .boolean) 0 0 [.ref (B + u1), .int (zI x)] M (fun r M1 => ∃ z : Int, r = zI z ∧ (0 ≤ z ∧ z ≤ 1) ∧ M1 = M) := by
  refine s_anyQ (by decide) (Nat.le_of_ble_eq_true rfl) ?_
  intro p e s m args below meth c ls Q F hr hlocks hQ w hl
  have F : CallFix p m c cX4_isOf 2 s args TB RX4 := F
  have hx := F.1
  have hb := F.2.1
  have hl : lv_has ls 2 [(0, .ref (B + u1)), (1, .int (zI x))] := hl
  refine lv_aload_n hx hb dX4_isOf_0 rfl (lv_at hl 0 rfl) ?_
  refine f_4_0 F w (a := u1) hku1 tb_49 dX4_isOf_1 ?_
  refine lv_iconst (v := zI 2) hx hb dX4_isOf_4 rfl ?_
  refine g_iald F w (a := (u1 + 1)) (iv_u hku1).2.2 (j := 2) ⟨by decide, by decide⟩ (by omega) dX4_isOf_5 ?_
  obtain ⟨z1, bz1, ez1⟩ := Inv.ld (k := 2) hI (iv_up hku1 _) (by have := lt_u hku1; omega)
  refine r_val ez1 ?_
  refine lv_iconst (v := zI 3) hx hb dX4_isOf_6 rfl ?_
  refine z_icmp_eq (tgt := 20) hx hb (by omega) (by omega) dX4_isOf_7 (by decide) (fun c2 => ?_) (fun c2 => ?_)
  · refine lv_iconst (v := zI 1) hx hb dX4_isOf_20 rfl ?_
    refine lv_goto (tgt := 25) hx hb dX4_isOf_21 (by decide) ?_
    rw [hQ]
    exact e_z F w hr hlocks (nar_z (by omega)) ⟨_, rfl, (by omega), rfl⟩ dX4_isOf_25
  · refine lv_aload_n hx hb dX4_isOf_10 rfl (lv_at hl 0 rfl) ?_
    refine f_4_0 F w (a := u1) hku1 tb_49 dX4_isOf_11 ?_
    refine lv_iconst (v := zI 2) hx hb dX4_isOf_14 rfl ?_
    refine g_iald F w (a := (u1 + 1)) (iv_u hku1).2.2 (j := 2) ⟨by decide, by decide⟩ (by omega) dX4_isOf_15 ?_
    refine r_val (v := zI z1) (ez1) ?_
    refine lv_iload_n hx hb dX4_isOf_16 rfl (lv_at hl 1 rfl) ?_
    refine z_icmp_ne (tgt := 24) hx hb (by omega) (by omega) dX4_isOf_17 (by decide) (fun c3 => ?_) (fun c3 => ?_)
    · refine lv_iconst (v := zI 0) hx hb dX4_isOf_24 rfl ?_
      rw [hQ]
      exact e_z F w hr hlocks (nar_z (by omega)) ⟨_, rfl, (by omega), rfl⟩ dX4_isOf_25
    · refine lv_iconst (v := zI 1) hx hb dX4_isOf_20 rfl ?_
      refine lv_goto (tgt := 25) hx hb dX4_isOf_21 (by decide) ?_
      rw [hQ]
      exact e_z F w hr hlocks (nar_z (by omega)) ⟨_, rfl, (by omega), rfl⟩ dX4_isOf_25
set_option maxRecDepth 4000 in
theorem q_X4_goesLeft {l : Launch} {D : va_G} {B : Nat} {cy : Nat → ClassId} {M : Mem} {u1 : Nat} (hku1 : kd u1 = (4, 0, 0)) (hI : Inv M) : Ci l D B cy yX4_goesLeft cX4_goesLeft 2 (some .boolean) 0 0 [.ref (B + u1)] M (fun r M1 => ∃ z : Int, r = zI z ∧ (0 ≤ z ∧ z ≤ 1) ∧ M1 = M) := by
  refine s_anyQ (by decide) (Nat.le_of_ble_eq_true rfl) ?_
  intro p e s m args below meth c ls Q F hr hlocks hQ w hl
  have F : CallFix p m c cX4_goesLeft 2 s args TB RX4 := F
  have hx := F.1
  have hb := F.2.1
  have hl : lv_has ls 2 [(0, .ref (B + u1))] := hl
  refine lv_aload_n hx hb dX4_goesLeft_0 rfl (lv_at hl 0 rfl) ?_
  refine f_4_0 F w (a := u1) hku1 tb_49 dX4_goesLeft_1 ?_
  refine lv_iconst (v := zI 0) hx hb dX4_goesLeft_4 rfl ?_
  refine g_iald F w (a := (u1 + 1)) (iv_u hku1).2.2 (j := 0) ⟨by decide, by decide⟩ (by omega) dX4_goesLeft_5 ?_
  obtain ⟨z1, bz1, ez1⟩ := Inv.ld (k := 0) hI (iv_up hku1 _) (by have := lt_u hku1; omega)
  refine r_val ez1 ?_
  refine lv_istore_n (lv' := [(1, .int (zI z1)), (0, .ref (B + u1))]) hx hb dX4_goesLeft_6 rfl hl (by decide) rfl (fun ls hl => ?_)
  refine lv_aload_n hx hb dX4_goesLeft_7 rfl (lv_at hl 1 rfl) ?_
  refine f_4_0 F w (a := u1) hku1 tb_49 dX4_goesLeft_8 ?_
  refine lv_iconst (v := zI 4) hx hb dX4_goesLeft_11 rfl ?_
  refine g_iald F w (a := (u1 + 1)) (iv_u hku1).2.2 (j := 4) ⟨by decide, by decide⟩ (by omega) dX4_goesLeft_12 ?_
  obtain ⟨z2, bz2, ez2⟩ := Inv.ld (k := 4) hI (iv_up hku1 _) (by have := lt_u hku1; omega)
  refine r_val ez2 ?_
  refine lv_iconst (v := zI 1) hx hb dX4_goesLeft_13 rfl ?_
  refine z_icmp_ne (tgt := 36) hx hb (by omega) (by omega) dX4_goesLeft_14 (by decide) (fun c3 => ?_) (fun c3 => ?_)
  · refine lv_iconst (v := zI 0) hx hb dX4_goesLeft_36 rfl ?_
    rw [hQ]
    exact e_z F w hr hlocks (nar_z (by omega)) ⟨_, rfl, (by omega), rfl⟩ dX4_goesLeft_37
  · refine lv_iload_n hx hb dX4_goesLeft_17 rfl (lv_at hl 0 rfl) ?_
    refine lv_iconst (v := zI 1) hx hb dX4_goesLeft_18 rfl ?_
    refine z_icmp_eq (tgt := 32) hx hb (by omega) (by omega) dX4_goesLeft_19 (by decide) (fun c4 => ?_) (fun c4 => ?_)
    · refine lv_iconst (v := zI 1) hx hb dX4_goesLeft_32 rfl ?_
      refine lv_goto (tgt := 37) hx hb dX4_goesLeft_33 (by decide) ?_
      rw [hQ]
      exact e_z F w hr hlocks (nar_z (by omega)) ⟨_, rfl, (by omega), rfl⟩ dX4_goesLeft_37
    · refine lv_iload_n hx hb dX4_goesLeft_22 rfl (lv_at hl 0 rfl) ?_
      refine lv_iconst (v := zI 2) hx hb dX4_goesLeft_23 rfl ?_
      refine z_icmp_eq (tgt := 32) hx hb (by omega) (by omega) dX4_goesLeft_24 (by decide) (fun c5 => ?_) (fun c5 => ?_)
      · refine lv_iconst (v := zI 1) hx hb dX4_goesLeft_32 rfl ?_
        refine lv_goto (tgt := 37) hx hb dX4_goesLeft_33 (by decide) ?_
        rw [hQ]
        exact e_z F w hr hlocks (nar_z (by omega)) ⟨_, rfl, (by omega), rfl⟩ dX4_goesLeft_37
      · refine lv_iload_n hx hb dX4_goesLeft_27 rfl (lv_at hl 0 rfl) ?_
        refine lv_iconst (v := zI 4) hx hb dX4_goesLeft_28 rfl ?_
        refine z_icmp_ne (tgt := 36) hx hb (by omega) (by omega) dX4_goesLeft_29 (by decide) (fun c6 => ?_) (fun c6 => ?_)
        · refine lv_iconst (v := zI 0) hx hb dX4_goesLeft_36 rfl ?_
          rw [hQ]
          exact e_z F w hr hlocks (nar_z (by omega)) ⟨_, rfl, (by omega), rfl⟩ dX4_goesLeft_37
        · refine lv_iconst (v := zI 1) hx hb dX4_goesLeft_32 rfl ?_
          refine lv_goto (tgt := 37) hx hb dX4_goesLeft_33 (by decide) ?_
          rw [hQ]
          exact e_z F w hr hlocks (nar_z (by omega)) ⟨_, rfl, (by omega), rfl⟩ dX4_goesLeft_37
set_option maxRecDepth 4000 in
theorem q_X4_isTestKind {l : Launch} {D : va_G} {B : Nat} {cy : Nat → ClassId} {M : Mem} {u1 : Nat} (hku1 : kd u1 = (4, 0, 0)) {x : Int} (hx : (-2147483648) ≤ x ∧ x ≤ 2147483647) (hI : Inv M) : Ci l D B cy yX4_isTestKind cX4_isTestKind 2 (some .boolean) 0 0 [.ref (B + u1), .int (zI x)] M (fun r M1 => ∃ z : Int, r = zI z ∧ (0 ≤ z ∧ z ≤ 1) ∧ M1 = M) := by
  refine s_anyQ (by decide) (Nat.le_of_ble_eq_true rfl) ?_
  intro p e s m args below meth c ls Q F hr hlocks hQ w hl
  have F : CallFix p m c cX4_isTestKind 2 s args TB RX4 := F
  have hx := F.1
  have hb := F.2.1
  have hl : lv_has ls 2 [(0, .ref (B + u1)), (1, .int (zI x))] := hl
  refine lv_iload_n hx hb dX4_isTestKind_0 rfl (lv_at hl 1 rfl) ?_
  refine lv_iconst (v := zI (-1)) hx hb dX4_isTestKind_1 rfl ?_
  refine z_icmp_eq (tgt := 31) hx hb (by omega) (by omega) dX4_isTestKind_2 (by decide) (fun c1 => ?_) (fun c1 => ?_)
  · refine lv_iconst (v := zI 0) hx hb dX4_isTestKind_31 rfl ?_
    rw [hQ]
    exact e_z F w hr hlocks (nar_z (by omega)) ⟨_, rfl, (by omega), rfl⟩ dX4_isTestKind_32
  · refine lv_aload_n hx hb dX4_isTestKind_5 rfl (lv_at hl 0 rfl) ?_
    refine f_4_0 F w (a := u1) hku1 tb_49 dX4_isTestKind_6 ?_
    refine lv_bipush (v := zI 7) hx hb dX4_isTestKind_9 (by decide) ?_
    refine g_iald F w (a := (u1 + 1)) (iv_u hku1).2.2 (j := 7) ⟨by decide, by decide⟩ (by omega) dX4_isTestKind_11 ?_
    obtain ⟨z2, bz2, ez2⟩ := Inv.ld (k := 7) hI (iv_up hku1 _) (by have := lt_u hku1; omega)
    refine r_val ez2 ?_
    refine lv_iconst (v := zI 3) hx hb dX4_isTestKind_12 rfl ?_
    refine z_icmp_eq (tgt := 27) hx hb (by omega) (by omega) dX4_isTestKind_13 (by decide) (fun c3 => ?_) (fun c3 => ?_)
    · refine lv_iconst (v := zI 1) hx hb dX4_isTestKind_27 rfl ?_
      refine lv_goto (tgt := 32) hx hb dX4_isTestKind_28 (by decide) ?_
      rw [hQ]
      exact e_z F w hr hlocks (nar_z (by omega)) ⟨_, rfl, (by omega), rfl⟩ dX4_isTestKind_32
    · refine lv_aload_n hx hb dX4_isTestKind_16 rfl (lv_at hl 0 rfl) ?_
      refine f_4_0 F w (a := u1) hku1 tb_49 dX4_isTestKind_17 ?_
      refine lv_bipush (v := zI 7) hx hb dX4_isTestKind_20 (by decide) ?_
      refine g_iald F w (a := (u1 + 1)) (iv_u hku1).2.2 (j := 7) ⟨by decide, by decide⟩ (by omega) dX4_isTestKind_22 ?_
      refine r_val (v := zI z2) (ez2) ?_
      refine lv_iload_n hx hb dX4_isTestKind_23 rfl (lv_at hl 1 rfl) ?_
      refine z_icmp_ne (tgt := 31) hx hb (by omega) (by omega) dX4_isTestKind_24 (by decide) (fun c4 => ?_) (fun c4 => ?_)
      · refine lv_iconst (v := zI 0) hx hb dX4_isTestKind_31 rfl ?_
        rw [hQ]
        exact e_z F w hr hlocks (nar_z (by omega)) ⟨_, rfl, (by omega), rfl⟩ dX4_isTestKind_32
      · refine lv_iconst (v := zI 1) hx hb dX4_isTestKind_27 rfl ?_
        refine lv_goto (tgt := 32) hx hb dX4_isTestKind_28 (by decide) ?_
        rw [hQ]
        exact e_z F w hr hlocks (nar_z (by omega)) ⟨_, rfl, (by omega), rfl⟩ dX4_isTestKind_32
theorem dX4_admits_0 : decode cX4_admits 0 = .ok (.aload_n 1, 1) := wdX4_admits_0
theorem dX4_admits_1 : decode cX4_admits 1 = .ok (.iload_n 2, 1) := wdX4_admits_1
theorem dX4_admits_2 : decode cX4_admits 2 = .ok (.invokevirtual 27, 3) := wdX4_admits_2
theorem tb_111 : Cond.methodLink "ToneLines$Rule" 27 yX9_linesFrom ∈ TB := wtb_0
theorem gv_X4_27 : GoodIn TB (wsV RX4 27 RX9 yX9_linesFrom (cw yX9_linesFrom cX9_linesFrom 2 (some .int))) := goodIn_4 tb_111 tb_64 tb_65 tb_5 gc_X9_linesFrom
theorem dX4_admits_5 : decode cX4_admits 5 = .ok (.istore_n 3, 1) := wdX4_admits_5
theorem dX4_admits_6 : decode cX4_admits 6 = .ok (.aload_n 0, 1) := wdX4_admits_6
theorem dX4_admits_7 : decode cX4_admits 7 = .ok (.getfield 9, 3) := wdX4_admits_7
theorem dX4_admits_10 : decode cX4_admits 10 = .ok (.iconst 5, 1) := wdX4_admits_10
theorem dX4_admits_11 : decode cX4_admits 11 = .ok (.iaload, 1) := wdX4_admits_11
theorem dX4_admits_12 : decode cX4_admits 12 = .ok (.tableswitch 165 0 6 #[44, 61, 88, 101, 119, 133, 149], 44) := wdX4_admits_12
theorem dX4_admits_56 : decode cX4_admits 56 = .ok (.iload_n 3, 1) := wdX4_admits_56
theorem dX4_admits_57 : decode cX4_admits 57 = .ok (.invokestatic 33, 3) := wdX4_admits_57
theorem dX4_admits_60 : decode cX4_admits 60 = .ok (.ifCond .ne 7, 3) := wdX4_admits_60
theorem dX4_admits_67 : decode cX4_admits 67 = .ok (.iconst 0, 1) := wdX4_admits_67
theorem dX4_admits_68 : decode cX4_admits 68 = .ok (.istore 4, 2) := wdX4_admits_68
theorem dX4_admits_70 : decode cX4_admits 70 = .ok (.goto 109, 3) := wdX4_admits_70
theorem dX4_admits_179 : decode cX4_admits 179 = .ok (.iload 4, 2) := wdX4_admits_179
theorem dX4_admits_181 : decode cX4_admits 181 = .ok (.aload_n 0, 1) := wdX4_admits_181
theorem dX4_admits_182 : decode cX4_admits 182 = .ok (.getfield 9, 3) := wdX4_admits_182
theorem dX4_admits_185 : decode cX4_admits 185 = .ok (.bipush 6, 2) := wdX4_admits_185
theorem dX4_admits_187 : decode cX4_admits 187 = .ok (.iaload, 1) := wdX4_admits_187
theorem dX4_admits_188 : decode cX4_admits 188 = .ok (.iconst 1, 1) := wdX4_admits_188
theorem dX4_admits_189 : decode cX4_admits 189 = .ok (.if_icmp .ne 7, 3) := wdX4_admits_189
theorem dX4_admits_196 : decode cX4_admits 196 = .ok (.iconst 0, 1) := wdX4_admits_196
theorem dX4_admits_197 : decode cX4_admits 197 = .ok (.if_icmp .eq 7, 3) := wdX4_admits_197
theorem dX4_admits_204 : decode cX4_admits 204 = .ok (.iconst 0, 1) := wdX4_admits_204
theorem dX4_admits_205 : decode cX4_admits 205 = .ok (.ireturn, 1) := wdX4_admits_205
theorem dX4_admits_192 : decode cX4_admits 192 = .ok (.iconst 1, 1) := wdX4_admits_192
theorem dX4_admits_193 : decode cX4_admits 193 = .ok (.goto 4, 3) := wdX4_admits_193
theorem dX4_admits_200 : decode cX4_admits 200 = .ok (.iconst 1, 1) := wdX4_admits_200
theorem dX4_admits_201 : decode cX4_admits 201 = .ok (.goto 4, 3) := wdX4_admits_201
theorem dX4_admits_63 : decode cX4_admits 63 = .ok (.iconst 1, 1) := wdX4_admits_63
theorem dX4_admits_64 : decode cX4_admits 64 = .ok (.goto 4, 3) := wdX4_admits_64
theorem dX4_admits_73 : decode cX4_admits 73 = .ok (.iload_n 3, 1) := wdX4_admits_73
theorem dX4_admits_74 : decode cX4_admits 74 = .ok (.ifCond .eq 20, 3) := wdX4_admits_74
theorem dX4_admits_94 : decode cX4_admits 94 = .ok (.iconst 0, 1) := wdX4_admits_94
theorem dX4_admits_95 : decode cX4_admits 95 = .ok (.istore 4, 2) := wdX4_admits_95
theorem dX4_admits_97 : decode cX4_admits 97 = .ok (.goto 82, 3) := wdX4_admits_97
theorem dX4_admits_77 : decode cX4_admits 77 = .ok (.iload_n 3, 1) := wdX4_admits_77
theorem dX4_admits_78 : decode cX4_admits 78 = .ok (.invokestatic 36, 3) := wdX4_admits_78
theorem dX4_admits_81 : decode cX4_admits 81 = .ok (.aload_n 1, 1) := wdX4_admits_81
theorem dX4_admits_82 : decode cX4_admits 82 = .ok (.getfield 39, 3) := wdX4_admits_82
theorem tb_112 : Cond.fieldLink "ToneLines$Rule" 39 "ToneLines$Word" "syllables" "I" ∈ TB := wtb_8
theorem dX4_admits_85 : decode cX4_admits 85 = .ok (.iconst 1, 1) := wdX4_admits_85
theorem dX4_admits_86 : decode cX4_admits 86 = .ok (.isub, 1) := wdX4_admits_86
theorem dX4_admits_87 : decode cX4_admits 87 = .ok (.if_icmp .ne 7, 3) := wdX4_admits_87
theorem dX4_admits_90 : decode cX4_admits 90 = .ok (.iconst 1, 1) := wdX4_admits_90
theorem dX4_admits_91 : decode cX4_admits 91 = .ok (.goto 4, 3) := wdX4_admits_91
theorem dX4_admits_100 : decode cX4_admits 100 = .ok (.aload_n 1, 1) := wdX4_admits_100
theorem dX4_admits_101 : decode cX4_admits 101 = .ok (.iload_n 3, 1) := wdX4_admits_101
theorem dX4_admits_102 : decode cX4_admits 102 = .ok (.invokestatic 36, 3) := wdX4_admits_102
theorem dX4_admits_105 : decode cX4_admits 105 = .ok (.invokevirtual 43, 3) := wdX4_admits_105
theorem tk_X9_isHeavy : Cond.code yX9_isHeavy cX9_isHeavy 2 (some .boolean) ∈ TB := wtk_X9_isHeavy
theorem gc_X9_isHeavy : GoodIn TB (cw yX9_isHeavy cX9_isHeavy 2 (some .boolean)) := goodIn_c2 tk_X9_isHeavy
theorem tb_113 : Cond.methodLink "ToneLines$Rule" 43 yX9_isHeavy ∈ TB := wtb_9
theorem tb_114 : Cond.instanceMethod yX9_isHeavy ∈ TB := wtb_10
theorem tb_115 : Cond.selects "ToneLines$Word" yX9_isHeavy yX9_isHeavy ∈ TB := wtb_11
theorem gv_X4_43 : GoodIn TB (wsV RX4 43 RX9 yX9_isHeavy (cw yX9_isHeavy cX9_isHeavy 2 (some .boolean))) := goodIn_4 tb_113 tb_114 tb_115 tb_5 gc_X9_isHeavy
theorem hv_X9_isHeavy : yX9_isHeavy.cls = RX9 ∧ yX9_isHeavy.cls ≠ "java/lang/invoke/MethodHandle" ∧ yX9_isHeavy.cls ≠ "java/lang/invoke/VarHandle" ∧ (parseMethodDescriptor yX9_isHeavy.desc).map (fun d => d.parameters.length) = some 1 := whv_X9_isHeavy
theorem dX4_admits_108 : decode cX4_admits 108 = .ok (.istore 4, 2) := wdX4_admits_108
theorem dX4_admits_110 : decode cX4_admits 110 = .ok (.goto 69, 3) := wdX4_admits_110
theorem dX4_admits_113 : decode cX4_admits 113 = .ok (.iload_n 3, 1) := wdX4_admits_113
theorem dX4_admits_114 : decode cX4_admits 114 = .ok (.invokestatic 47, 3) := wdX4_admits_114
theorem tb_116 : Cond.methodLink "ToneLines$Rule" 47 yJ6_bitCount_0f7a4 ∈ TB := wtb_12
theorem gs_X4_47 : GoodIn TB (va_wsS RX4 47 yJ6_bitCount_0f7a4 (cw yJ6_bitCount_0f7a4 cJ6_bitCount_0f7a4 1 (some .int))) := goodIn_3 tb_116 tb_23 tb_24 gc_J6_bitCount_0f7a4
theorem dX4_admits_117 : decode cX4_admits 117 = .ok (.iconst 2, 1) := wdX4_admits_117
theorem dX4_admits_118 : decode cX4_admits 118 = .ok (.if_icmp .lt 7, 3) := wdX4_admits_118
theorem dX4_admits_125 : decode cX4_admits 125 = .ok (.iconst 0, 1) := wdX4_admits_125
theorem dX4_admits_126 : decode cX4_admits 126 = .ok (.istore 4, 2) := wdX4_admits_126
theorem dX4_admits_128 : decode cX4_admits 128 = .ok (.goto 51, 3) := wdX4_admits_128
theorem dX4_admits_121 : decode cX4_admits 121 = .ok (.iconst 1, 1) := wdX4_admits_121
theorem dX4_admits_122 : decode cX4_admits 122 = .ok (.goto 4, 3) := wdX4_admits_122
theorem dX4_admits_131 : decode cX4_admits 131 = .ok (.iload_n 3, 1) := wdX4_admits_131
theorem dX4_admits_132 : decode cX4_admits 132 = .ok (.ifCond .ne 7, 3) := wdX4_admits_132
theorem dX4_admits_139 : decode cX4_admits 139 = .ok (.iconst 0, 1) := wdX4_admits_139
theorem dX4_admits_140 : decode cX4_admits 140 = .ok (.istore 4, 2) := wdX4_admits_140
theorem dX4_admits_142 : decode cX4_admits 142 = .ok (.goto 37, 3) := wdX4_admits_142
theorem dX4_admits_135 : decode cX4_admits 135 = .ok (.iconst 1, 1) := wdX4_admits_135
theorem dX4_admits_136 : decode cX4_admits 136 = .ok (.goto 4, 3) := wdX4_admits_136
theorem dX4_admits_145 : decode cX4_admits 145 = .ok (.aload_n 0, 1) := wdX4_admits_145
theorem dX4_admits_146 : decode cX4_admits 146 = .ok (.aload_n 1, 1) := wdX4_admits_146
theorem dX4_admits_147 : decode cX4_admits 147 = .ok (.iload_n 2, 1) := wdX4_admits_147
theorem dX4_admits_148 : decode cX4_admits 148 = .ok (.iconst 1, 1) := wdX4_admits_148
theorem dX4_admits_149 : decode cX4_admits 149 = .ok (.iadd, 1) := wdX4_admits_149
theorem dX4_admits_150 : decode cX4_admits 150 = .ok (.invokevirtual 52, 3) := wdX4_admits_150
theorem tb_117 : Cond.methodLink "ToneLines$Rule" 52 yX9_kindOf ∈ TB := wtb_15
theorem gv_X4_52 : GoodIn TB (wsV RX4 52 RX9 yX9_kindOf (cw yX9_kindOf cX9_kindOf 2 (some .int))) := goodIn_4 tb_117 tb_83 tb_84 tb_5 gc_X9_kindOf
theorem dX4_admits_153 : decode cX4_admits 153 = .ok (.invokevirtual 55, 3) := wdX4_admits_153
theorem tk_X4_isTestKind : Cond.code yX4_isTestKind cX4_isTestKind 2 (some .boolean) ∈ TB := wtk_X4_isTestKind
theorem gc_X4_isTestKind : GoodIn TB (cw yX4_isTestKind cX4_isTestKind 2 (some .boolean)) := goodIn_c2 tk_X4_isTestKind
theorem tb_118 : Cond.methodLink "ToneLines$Rule" 55 yX4_isTestKind ∈ TB := wtb_18
theorem tb_119 : Cond.instanceMethod yX4_isTestKind ∈ TB := wtb_19
theorem tb_120 : Cond.selects "ToneLines$Rule" yX4_isTestKind yX4_isTestKind ∈ TB := wtb_20
theorem tb_121 : Cond.initialized "ToneLines$Rule" ∈ TB := rtb_68
theorem gv_X4_55 : GoodIn TB (wsV RX4 55 RX4 yX4_isTestKind (cw yX4_isTestKind cX4_isTestKind 2 (some .boolean))) := goodIn_4 tb_118 tb_119 tb_120 tb_121 gc_X4_isTestKind
theorem hv_X4_isTestKind : yX4_isTestKind.cls = RX4 ∧ yX4_isTestKind.cls ≠ "java/lang/invoke/MethodHandle" ∧ yX4_isTestKind.cls ≠ "java/lang/invoke/VarHandle" ∧ (parseMethodDescriptor yX4_isTestKind.desc).map (fun d => d.parameters.length) = some 1 := whv_X4_isTestKind
theorem dX4_admits_156 : decode cX4_admits 156 = .ok (.istore 4, 2) := wdX4_admits_156
theorem dX4_admits_158 : decode cX4_admits 158 = .ok (.goto 21, 3) := wdX4_admits_158
theorem dX4_admits_161 : decode cX4_admits 161 = .ok (.aload_n 0, 1) := wdX4_admits_161
theorem dX4_admits_162 : decode cX4_admits 162 = .ok (.aload_n 1, 1) := wdX4_admits_162
theorem dX4_admits_163 : decode cX4_admits 163 = .ok (.iload_n 2, 1) := wdX4_admits_163
theorem dX4_admits_164 : decode cX4_admits 164 = .ok (.iconst 1, 1) := wdX4_admits_164
theorem dX4_admits_165 : decode cX4_admits 165 = .ok (.isub, 1) := wdX4_admits_165
theorem dX4_admits_166 : decode cX4_admits 166 = .ok (.invokevirtual 52, 3) := wdX4_admits_166
theorem dX4_admits_169 : decode cX4_admits 169 = .ok (.invokevirtual 55, 3) := wdX4_admits_169
theorem dX4_admits_172 : decode cX4_admits 172 = .ok (.istore 4, 2) := wdX4_admits_172
theorem dX4_admits_174 : decode cX4_admits 174 = .ok (.goto 5, 3) := wdX4_admits_174
theorem dX4_admits_177 : decode cX4_admits 177 = .ok (.iconst 1, 1) := wdX4_admits_177
theorem dX4_admits_178 : decode cX4_admits 178 = .ok (.ireturn, 1) := wdX4_admits_178
set_option maxHeartbeats 4000000 in
set_option maxRecDepth 4000 in
theorem q_X4_admits {l : Launch} {D : va_G} {B : Nat} {cy : Nat → ClassId} {M : Mem} {u1 : Nat} (hku1 : kd u1 = (4, 0, 0)) {a : Nat} (hka : kd a = (9, 0, 0)) {t : Int} (ht : 0 ≤ t ∧ t ≤ 11) (hI : Inv M) : Ci l D B cy yX4_admits cX4_admits 5 (some .boolean) 2 42 [.ref (B + u1), .ref (B + a), .int (zI t)] M (fun r M1 => ∃ z : Int, r = zI z ∧ (0 ≤ z ∧ z ≤ 1) ∧ M1 = M) := by
  refine s_anyQ (by decide) (Nat.le_of_ble_eq_true rfl) ?_
  intro p e s m args below meth c ls Q F hr hlocks hQ w hl
  have F : CallFix p m c cX4_admits 5 s args TB RX4 := F
  have hx := F.1
  have hb := F.2.1
  have hl : lv_has ls 5 [(0, .ref (B + u1)), (1, .ref (B + a)), (2, .int (zI t))] := hl
  refine lv_aload_n hx hb dX4_admits_0 rfl (lv_at hl 1 rfl) ?_
  refine lv_iload_n hx hb dX4_admits_1 rfl (lv_at hl 2 rfl) ?_
  refine k_Vi F w (As := [.int (zI t)]) (rest := []) (a := a) (kd_lt (a := a) hka (by decide)) (sh_9 hka _ _) rfl (q_X9_linesFrom (a := a) hka (t := t) (by omega)  hI) gv_X4_27 hv_X9_linesFrom ⟨(Nat.le_of_ble_eq_true rfl), (Nat.le_of_ble_eq_true rfl)⟩ hl.1 rfl (Nat.le_of_ble_eq_true rfl) ⟨Nat.zero_le _, Nat.zero_le _⟩ dX4_admits_2 (fun r1 N2 H locs hp w => ?_)
  obtain ⟨z3, rfl, bz3, hMN2⟩ := hp
  rw [hMN2] at w
  refine lv_istore_n (lv' := [(3, .int (zI z3)), (0, .ref (B + u1)), (1, .ref (B + a)), (2, .int (zI t))]) hx hb dX4_admits_5 rfl hl (by decide) rfl (fun ls hl => ?_)
  refine lv_aload_n hx hb dX4_admits_6 rfl (lv_at hl 1 rfl) ?_
  refine f_4_0 F w (a := u1) hku1 tb_49 dX4_admits_7 ?_
  refine lv_iconst (v := zI 5) hx hb dX4_admits_10 rfl ?_
  refine g_iald F w (a := (u1 + 1)) (iv_u hku1).2.2 (j := 5) ⟨by decide, by decide⟩ (by omega) dX4_admits_11 ?_
  obtain ⟨z4, bz4, ez4⟩ := Inv.ld (k := 5) hI (iv_up hku1 _) (by have := lt_u hku1; omega)
  refine r_val ez4 ?_
  rcases (show z4 = 0 ∨ z4 = 1 ∨ z4 = 2 ∨ z4 = 3 ∨ z4 = 4 ∨ z4 = 5 ∨ z4 = 6 ∨ (z4 ≠ 0 ∧ z4 ≠ 1 ∧ z4 ≠ 2 ∧ z4 ≠ 3 ∧ z4 ≠ 4 ∧ z4 ≠ 5 ∧ z4 ≠ 6) by omega) with c5 | c5 | c5 | c5 | c5 | c5 | c5 | c5
  · refine r_val (v := zI 0) (congrArg zI c5) ?_
    refine lv_tableIn (tgt := 56) hx hb dX4_admits_12 (by decide) (by decide) (off := 44) rfl (by decide) ?_
    refine lv_iload_n hx hb dX4_admits_56 rfl (lv_at hl 0 rfl) ?_
    refine k_Ni F w (As := [.int (zI z3)]) (rest := []) (q_lowest (x := z3) (by omega) ) gc_X11_lowest tb_95 tb_96 (by decide) hs_X11_lowest ⟨(Nat.le_of_ble_eq_true rfl), (Nat.le_of_ble_eq_true rfl)⟩ hl.1 rfl (Nat.le_of_ble_eq_true rfl) ⟨Nat.zero_le _, Nat.zero_le _⟩ dX4_admits_57 (fun r6 N7 H locs hp w => ?_)
    obtain ⟨hrz8, hMz8⟩ := hp
    rw [hMz8] at w
    obtain ⟨z8, bz8, xz8, ez8⟩ := low_ex z3 (by omega)
    refine r_val (hrz8.trans ez8) ?_
    refine z_if_ne (tgt := 67) hx hb (by omega) dX4_admits_60 (by decide) (fun c9 => ?_) (fun c9 => ?_)
    · refine lv_iconst (v := zI 0) hx hb dX4_admits_67 rfl ?_
      refine lv_istore (lv' := [(4, .int (zI 0)), (3, .int (zI z3)), (0, .ref (B + u1)), (1, .ref (B + a)), (2, .int (zI t))]) hx hb dX4_admits_68 hl (by decide) rfl (fun ls hl => ?_)
      refine lv_goto (tgt := 179) hx hb dX4_admits_70 (by decide) ?_
      refine lv_iload hx hb dX4_admits_179 (lv_at hl 0 rfl) ?_
      refine lv_aload_n hx hb dX4_admits_181 rfl (lv_at hl 2 rfl) ?_
      refine f_4_0 F w (a := u1) hku1 tb_49 dX4_admits_182 ?_
      refine lv_bipush (v := zI 6) hx hb dX4_admits_185 (by decide) ?_
      refine g_iald F w (a := (u1 + 1)) (iv_u hku1).2.2 (j := 6) ⟨by decide, by decide⟩ (by omega) dX4_admits_187 ?_
      obtain ⟨z10, bz10, ez10⟩ := Inv.ld (k := 6) hI (iv_up hku1 _) (by have := lt_u hku1; omega)
      refine r_val ez10 ?_
      refine lv_iconst (v := zI 1) hx hb dX4_admits_188 rfl ?_
      refine z_icmp_ne (tgt := 196) hx hb (by omega) (by omega) dX4_admits_189 (by decide) (fun c11 => ?_) (fun c11 => ?_)
      · refine lv_iconst (v := zI 0) hx hb dX4_admits_196 rfl ?_
        refine z_icmp_eq (tgt := 204) hx hb (by omega) (by omega) dX4_admits_197 (by decide) (fun c12 => ?_) (fun c12 => False.elim (by omega))
        refine lv_iconst (v := zI 0) hx hb dX4_admits_204 rfl ?_
        rw [hQ]
        exact e_z F w hr hlocks (nar_z (by omega)) ⟨_, rfl, (by omega), rfl⟩ dX4_admits_205
      · refine lv_iconst (v := zI 1) hx hb dX4_admits_192 rfl ?_
        refine lv_goto (tgt := 197) hx hb dX4_admits_193 (by decide) ?_
        refine z_icmp_eq (tgt := 204) hx hb (by omega) (by omega) dX4_admits_197 (by decide) (fun c13 => False.elim (by omega)) (fun c13 => ?_)
        refine lv_iconst (v := zI 1) hx hb dX4_admits_200 rfl ?_
        refine lv_goto (tgt := 205) hx hb dX4_admits_201 (by decide) ?_
        rw [hQ]
        exact e_z F w hr hlocks (nar_z (by omega)) ⟨_, rfl, (by omega), rfl⟩ dX4_admits_205
    · refine lv_iconst (v := zI 1) hx hb dX4_admits_63 rfl ?_
      refine lv_goto (tgt := 68) hx hb dX4_admits_64 (by decide) ?_
      refine lv_istore (lv' := [(4, .int (zI 1)), (3, .int (zI z3)), (0, .ref (B + u1)), (1, .ref (B + a)), (2, .int (zI t))]) hx hb dX4_admits_68 hl (by decide) rfl (fun ls hl => ?_)
      refine lv_goto (tgt := 179) hx hb dX4_admits_70 (by decide) ?_
      refine lv_iload hx hb dX4_admits_179 (lv_at hl 0 rfl) ?_
      refine lv_aload_n hx hb dX4_admits_181 rfl (lv_at hl 2 rfl) ?_
      refine f_4_0 F w (a := u1) hku1 tb_49 dX4_admits_182 ?_
      refine lv_bipush (v := zI 6) hx hb dX4_admits_185 (by decide) ?_
      refine g_iald F w (a := (u1 + 1)) (iv_u hku1).2.2 (j := 6) ⟨by decide, by decide⟩ (by omega) dX4_admits_187 ?_
      obtain ⟨z14, bz14, ez14⟩ := Inv.ld (k := 6) hI (iv_up hku1 _) (by have := lt_u hku1; omega)
      refine r_val ez14 ?_
      refine lv_iconst (v := zI 1) hx hb dX4_admits_188 rfl ?_
      refine z_icmp_ne (tgt := 196) hx hb (by omega) (by omega) dX4_admits_189 (by decide) (fun c15 => ?_) (fun c15 => ?_)
      · refine lv_iconst (v := zI 0) hx hb dX4_admits_196 rfl ?_
        refine z_icmp_eq (tgt := 204) hx hb (by omega) (by omega) dX4_admits_197 (by decide) (fun c16 => False.elim (by omega)) (fun c16 => ?_)
        refine lv_iconst (v := zI 1) hx hb dX4_admits_200 rfl ?_
        refine lv_goto (tgt := 205) hx hb dX4_admits_201 (by decide) ?_
        rw [hQ]
        exact e_z F w hr hlocks (nar_z (by omega)) ⟨_, rfl, (by omega), rfl⟩ dX4_admits_205
      · refine lv_iconst (v := zI 1) hx hb dX4_admits_192 rfl ?_
        refine lv_goto (tgt := 197) hx hb dX4_admits_193 (by decide) ?_
        refine z_icmp_eq (tgt := 204) hx hb (by omega) (by omega) dX4_admits_197 (by decide) (fun c17 => ?_) (fun c17 => False.elim (by omega))
        refine lv_iconst (v := zI 0) hx hb dX4_admits_204 rfl ?_
        rw [hQ]
        exact e_z F w hr hlocks (nar_z (by omega)) ⟨_, rfl, (by omega), rfl⟩ dX4_admits_205
  · refine r_val (v := zI 1) (congrArg zI c5) ?_
    refine lv_tableIn (tgt := 73) hx hb dX4_admits_12 (by decide) (by decide) (off := 61) rfl (by decide) ?_
    refine lv_iload_n hx hb dX4_admits_73 rfl (lv_at hl 0 rfl) ?_
    refine z_if_eq (tgt := 94) hx hb (by omega) dX4_admits_74 (by decide) (fun c18 => ?_) (fun c18 => ?_)
    · refine lv_iconst (v := zI 0) hx hb dX4_admits_94 rfl ?_
      refine lv_istore (lv' := [(4, .int (zI 0)), (3, .int (zI z3)), (0, .ref (B + u1)), (1, .ref (B + a)), (2, .int (zI t))]) hx hb dX4_admits_95 hl (by decide) rfl (fun ls hl => ?_)
      refine lv_goto (tgt := 179) hx hb dX4_admits_97 (by decide) ?_
      refine lv_iload hx hb dX4_admits_179 (lv_at hl 0 rfl) ?_
      refine lv_aload_n hx hb dX4_admits_181 rfl (lv_at hl 2 rfl) ?_
      refine f_4_0 F w (a := u1) hku1 tb_49 dX4_admits_182 ?_
      refine lv_bipush (v := zI 6) hx hb dX4_admits_185 (by decide) ?_
      refine g_iald F w (a := (u1 + 1)) (iv_u hku1).2.2 (j := 6) ⟨by decide, by decide⟩ (by omega) dX4_admits_187 ?_
      obtain ⟨z19, bz19, ez19⟩ := Inv.ld (k := 6) hI (iv_up hku1 _) (by have := lt_u hku1; omega)
      refine r_val ez19 ?_
      refine lv_iconst (v := zI 1) hx hb dX4_admits_188 rfl ?_
      refine z_icmp_ne (tgt := 196) hx hb (by omega) (by omega) dX4_admits_189 (by decide) (fun c20 => ?_) (fun c20 => ?_)
      · refine lv_iconst (v := zI 0) hx hb dX4_admits_196 rfl ?_
        refine z_icmp_eq (tgt := 204) hx hb (by omega) (by omega) dX4_admits_197 (by decide) (fun c21 => ?_) (fun c21 => False.elim (by omega))
        refine lv_iconst (v := zI 0) hx hb dX4_admits_204 rfl ?_
        rw [hQ]
        exact e_z F w hr hlocks (nar_z (by omega)) ⟨_, rfl, (by omega), rfl⟩ dX4_admits_205
      · refine lv_iconst (v := zI 1) hx hb dX4_admits_192 rfl ?_
        refine lv_goto (tgt := 197) hx hb dX4_admits_193 (by decide) ?_
        refine z_icmp_eq (tgt := 204) hx hb (by omega) (by omega) dX4_admits_197 (by decide) (fun c22 => False.elim (by omega)) (fun c22 => ?_)
        refine lv_iconst (v := zI 1) hx hb dX4_admits_200 rfl ?_
        refine lv_goto (tgt := 205) hx hb dX4_admits_201 (by decide) ?_
        rw [hQ]
        exact e_z F w hr hlocks (nar_z (by omega)) ⟨_, rfl, (by omega), rfl⟩ dX4_admits_205
    · refine lv_iload_n hx hb dX4_admits_77 rfl (lv_at hl 0 rfl) ?_
      refine k_Ni F w (As := [.int (zI z3)]) (rest := []) (q_highest (x := z3) (by omega) ) gc_X11_highest tb_95 tb_97 (by decide) hs_X11_highest ⟨(Nat.le_of_ble_eq_true rfl), (Nat.le_of_ble_eq_true rfl)⟩ hl.1 rfl (Nat.le_of_ble_eq_true rfl) ⟨Nat.zero_le _, Nat.zero_le _⟩ dX4_admits_78 (fun r23 N24 H locs hp w => ?_)
      obtain ⟨hrz25, hMz25⟩ := hp
      rw [hMz25] at w
      obtain ⟨z25, bz25, xz25, ez25⟩ := hig_ex z3 (by omega)
      refine r_val (hrz25.trans ez25) ?_
      refine lv_aload_n hx hb dX4_admits_81 rfl (lv_at hl 2 rfl) ?_
      refine f_9_1 F w (a := a) hka tb_112 dX4_admits_82 ?_
      obtain ⟨z26, bz26, ez26⟩ := Inv.ld (k := 1) hI (iv_w1 hka) (by have := lt_w hka; omega)
      refine r_val ez26 ?_
      refine lv_iconst (v := zI 1) hx hb dX4_admits_85 rfl ?_
      refine z_isub (z := (z26 - 1)) hx hb dX4_admits_86 (by omega) ?_
      refine z_icmp_ne (tgt := 94) hx hb (by omega) (by omega) dX4_admits_87 (by decide) (fun c27 => ?_) (fun c27 => ?_)
      · refine lv_iconst (v := zI 0) hx hb dX4_admits_94 rfl ?_
        refine lv_istore (lv' := [(4, .int (zI 0)), (3, .int (zI z3)), (0, .ref (B + u1)), (1, .ref (B + a)), (2, .int (zI t))]) hx hb dX4_admits_95 hl (by decide) rfl (fun ls hl => ?_)
        refine lv_goto (tgt := 179) hx hb dX4_admits_97 (by decide) ?_
        refine lv_iload hx hb dX4_admits_179 (lv_at hl 0 rfl) ?_
        refine lv_aload_n hx hb dX4_admits_181 rfl (lv_at hl 2 rfl) ?_
        refine f_4_0 F w (a := u1) hku1 tb_49 dX4_admits_182 ?_
        refine lv_bipush (v := zI 6) hx hb dX4_admits_185 (by decide) ?_
        refine g_iald F w (a := (u1 + 1)) (iv_u hku1).2.2 (j := 6) ⟨by decide, by decide⟩ (by omega) dX4_admits_187 ?_
        obtain ⟨z28, bz28, ez28⟩ := Inv.ld (k := 6) hI (iv_up hku1 _) (by have := lt_u hku1; omega)
        refine r_val ez28 ?_
        refine lv_iconst (v := zI 1) hx hb dX4_admits_188 rfl ?_
        refine z_icmp_ne (tgt := 196) hx hb (by omega) (by omega) dX4_admits_189 (by decide) (fun c29 => ?_) (fun c29 => ?_)
        · refine lv_iconst (v := zI 0) hx hb dX4_admits_196 rfl ?_
          refine z_icmp_eq (tgt := 204) hx hb (by omega) (by omega) dX4_admits_197 (by decide) (fun c30 => ?_) (fun c30 => False.elim (by omega))
          refine lv_iconst (v := zI 0) hx hb dX4_admits_204 rfl ?_
          rw [hQ]
          exact e_z F w hr hlocks (nar_z (by omega)) ⟨_, rfl, (by omega), rfl⟩ dX4_admits_205
        · refine lv_iconst (v := zI 1) hx hb dX4_admits_192 rfl ?_
          refine lv_goto (tgt := 197) hx hb dX4_admits_193 (by decide) ?_
          refine z_icmp_eq (tgt := 204) hx hb (by omega) (by omega) dX4_admits_197 (by decide) (fun c31 => False.elim (by omega)) (fun c31 => ?_)
          refine lv_iconst (v := zI 1) hx hb dX4_admits_200 rfl ?_
          refine lv_goto (tgt := 205) hx hb dX4_admits_201 (by decide) ?_
          rw [hQ]
          exact e_z F w hr hlocks (nar_z (by omega)) ⟨_, rfl, (by omega), rfl⟩ dX4_admits_205
      · refine lv_iconst (v := zI 1) hx hb dX4_admits_90 rfl ?_
        refine lv_goto (tgt := 95) hx hb dX4_admits_91 (by decide) ?_
        refine lv_istore (lv' := [(4, .int (zI 1)), (3, .int (zI z3)), (0, .ref (B + u1)), (1, .ref (B + a)), (2, .int (zI t))]) hx hb dX4_admits_95 hl (by decide) rfl (fun ls hl => ?_)
        refine lv_goto (tgt := 179) hx hb dX4_admits_97 (by decide) ?_
        refine lv_iload hx hb dX4_admits_179 (lv_at hl 0 rfl) ?_
        refine lv_aload_n hx hb dX4_admits_181 rfl (lv_at hl 2 rfl) ?_
        refine f_4_0 F w (a := u1) hku1 tb_49 dX4_admits_182 ?_
        refine lv_bipush (v := zI 6) hx hb dX4_admits_185 (by decide) ?_
        refine g_iald F w (a := (u1 + 1)) (iv_u hku1).2.2 (j := 6) ⟨by decide, by decide⟩ (by omega) dX4_admits_187 ?_
        obtain ⟨z32, bz32, ez32⟩ := Inv.ld (k := 6) hI (iv_up hku1 _) (by have := lt_u hku1; omega)
        refine r_val ez32 ?_
        refine lv_iconst (v := zI 1) hx hb dX4_admits_188 rfl ?_
        refine z_icmp_ne (tgt := 196) hx hb (by omega) (by omega) dX4_admits_189 (by decide) (fun c33 => ?_) (fun c33 => ?_)
        · refine lv_iconst (v := zI 0) hx hb dX4_admits_196 rfl ?_
          refine z_icmp_eq (tgt := 204) hx hb (by omega) (by omega) dX4_admits_197 (by decide) (fun c34 => False.elim (by omega)) (fun c34 => ?_)
          refine lv_iconst (v := zI 1) hx hb dX4_admits_200 rfl ?_
          refine lv_goto (tgt := 205) hx hb dX4_admits_201 (by decide) ?_
          rw [hQ]
          exact e_z F w hr hlocks (nar_z (by omega)) ⟨_, rfl, (by omega), rfl⟩ dX4_admits_205
        · refine lv_iconst (v := zI 1) hx hb dX4_admits_192 rfl ?_
          refine lv_goto (tgt := 197) hx hb dX4_admits_193 (by decide) ?_
          refine z_icmp_eq (tgt := 204) hx hb (by omega) (by omega) dX4_admits_197 (by decide) (fun c35 => ?_) (fun c35 => False.elim (by omega))
          refine lv_iconst (v := zI 0) hx hb dX4_admits_204 rfl ?_
          rw [hQ]
          exact e_z F w hr hlocks (nar_z (by omega)) ⟨_, rfl, (by omega), rfl⟩ dX4_admits_205
  · refine r_val (v := zI 2) (congrArg zI c5) ?_
    refine lv_tableIn (tgt := 100) hx hb dX4_admits_12 (by decide) (by decide) (off := 88) rfl (by decide) ?_
    refine lv_aload_n hx hb dX4_admits_100 rfl (lv_at hl 2 rfl) ?_
    refine lv_iload_n hx hb dX4_admits_101 rfl (lv_at hl 0 rfl) ?_
    refine k_Ni F w (As := [.int (zI z3)]) (rest := [.ref (B + a)]) (q_highest (x := z3) (by omega) ) gc_X11_highest tb_95 tb_97 (by decide) hs_X11_highest ⟨(Nat.le_of_ble_eq_true rfl), (Nat.le_of_ble_eq_true rfl)⟩ hl.1 rfl (Nat.le_of_ble_eq_true rfl) ⟨Nat.zero_le _, Nat.zero_le _⟩ dX4_admits_102 (fun r36 N37 H locs hp w => ?_)
    obtain ⟨hrz38, hMz38⟩ := hp
    rw [hMz38] at w
    obtain ⟨z38, bz38, xz38, ez38⟩ := hig_ex z3 (by omega)
    refine r_val (hrz38.trans ez38) ?_
    refine k_Vi F w (As := [.int (zI z38)]) (rest := []) (a := a) (kd_lt (a := a) hka (by decide)) (sh_9 hka _ _) rfl (q_X9_isHeavy (a := a) hka (y := z38) (by omega)  hI) gv_X4_43 hv_X9_isHeavy ⟨(Nat.le_of_ble_eq_true rfl), (Nat.le_of_ble_eq_true rfl)⟩ hl.1 rfl (Nat.le_of_ble_eq_true rfl) ⟨Nat.zero_le _, Nat.zero_le _⟩ dX4_admits_105 (fun r39 N40 H locs hp w => ?_)
    obtain ⟨z41, rfl, bz41, xz41, hMN40⟩ := hp
    rw [hMN40] at w
    refine lv_istore (lv' := [(4, .int (zI z41)), (3, .int (zI z3)), (0, .ref (B + u1)), (1, .ref (B + a)), (2, .int (zI t))]) hx hb dX4_admits_108 hl (by decide) rfl (fun ls hl => ?_)
    refine lv_goto (tgt := 179) hx hb dX4_admits_110 (by decide) ?_
    refine lv_iload hx hb dX4_admits_179 (lv_at hl 0 rfl) ?_
    refine lv_aload_n hx hb dX4_admits_181 rfl (lv_at hl 2 rfl) ?_
    refine f_4_0 F w (a := u1) hku1 tb_49 dX4_admits_182 ?_
    refine lv_bipush (v := zI 6) hx hb dX4_admits_185 (by decide) ?_
    refine g_iald F w (a := (u1 + 1)) (iv_u hku1).2.2 (j := 6) ⟨by decide, by decide⟩ (by omega) dX4_admits_187 ?_
    obtain ⟨z42, bz42, ez42⟩ := Inv.ld (k := 6) hI (iv_up hku1 _) (by have := lt_u hku1; omega)
    refine r_val ez42 ?_
    refine lv_iconst (v := zI 1) hx hb dX4_admits_188 rfl ?_
    refine z_icmp_ne (tgt := 196) hx hb (by omega) (by omega) dX4_admits_189 (by decide) (fun c43 => ?_) (fun c43 => ?_)
    · refine lv_iconst (v := zI 0) hx hb dX4_admits_196 rfl ?_
      refine z_icmp_eq (tgt := 204) hx hb (by omega) (by omega) dX4_admits_197 (by decide) (fun c44 => ?_) (fun c44 => ?_)
      · refine lv_iconst (v := zI 0) hx hb dX4_admits_204 rfl ?_
        rw [hQ]
        exact e_z F w hr hlocks (nar_z (by omega)) ⟨_, rfl, (by omega), rfl⟩ dX4_admits_205
      · refine lv_iconst (v := zI 1) hx hb dX4_admits_200 rfl ?_
        refine lv_goto (tgt := 205) hx hb dX4_admits_201 (by decide) ?_
        rw [hQ]
        exact e_z F w hr hlocks (nar_z (by omega)) ⟨_, rfl, (by omega), rfl⟩ dX4_admits_205
    · refine lv_iconst (v := zI 1) hx hb dX4_admits_192 rfl ?_
      refine lv_goto (tgt := 197) hx hb dX4_admits_193 (by decide) ?_
      refine z_icmp_eq (tgt := 204) hx hb (by omega) (by omega) dX4_admits_197 (by decide) (fun c45 => ?_) (fun c45 => ?_)
      · refine lv_iconst (v := zI 0) hx hb dX4_admits_204 rfl ?_
        rw [hQ]
        exact e_z F w hr hlocks (nar_z (by omega)) ⟨_, rfl, (by omega), rfl⟩ dX4_admits_205
      · refine lv_iconst (v := zI 1) hx hb dX4_admits_200 rfl ?_
        refine lv_goto (tgt := 205) hx hb dX4_admits_201 (by decide) ?_
        rw [hQ]
        exact e_z F w hr hlocks (nar_z (by omega)) ⟨_, rfl, (by omega), rfl⟩ dX4_admits_205
  · refine r_val (v := zI 3) (congrArg zI c5) ?_
    refine lv_tableIn (tgt := 113) hx hb dX4_admits_12 (by decide) (by decide) (off := 101) rfl (by decide) ?_
    refine lv_iload_n hx hb dX4_admits_113 rfl (lv_at hl 0 rfl) ?_
    refine k_Si F w (As := [.int (zI z3)]) (rest := []) (q_bitCount (x := z3) (by omega) ) gs_X4_47 hs_J6_bitCount_0f7a4 ⟨(Nat.le_of_ble_eq_true rfl), (Nat.le_of_ble_eq_true rfl)⟩ hl.1 rfl (Nat.le_of_ble_eq_true rfl) ⟨Nat.zero_le _, Nat.zero_le _⟩ dX4_admits_114 (fun r46 N47 H locs hp w => ?_)
    obtain ⟨hrz48, hMz48⟩ := hp
    rw [hMz48] at w
    obtain ⟨z48, bz48, ez48⟩ := pop_ex z3 (by omega)
    refine r_val (hrz48.trans ez48) ?_
    refine lv_iconst (v := zI 2) hx hb dX4_admits_117 rfl ?_
    refine z_icmp_lt (tgt := 125) hx hb (by omega) (by omega) dX4_admits_118 (by decide) (fun c49 => ?_) (fun c49 => ?_)
    · refine lv_iconst (v := zI 0) hx hb dX4_admits_125 rfl ?_
      refine lv_istore (lv' := [(4, .int (zI 0)), (3, .int (zI z3)), (0, .ref (B + u1)), (1, .ref (B + a)), (2, .int (zI t))]) hx hb dX4_admits_126 hl (by decide) rfl (fun ls hl => ?_)
      refine lv_goto (tgt := 179) hx hb dX4_admits_128 (by decide) ?_
      refine lv_iload hx hb dX4_admits_179 (lv_at hl 0 rfl) ?_
      refine lv_aload_n hx hb dX4_admits_181 rfl (lv_at hl 2 rfl) ?_
      refine f_4_0 F w (a := u1) hku1 tb_49 dX4_admits_182 ?_
      refine lv_bipush (v := zI 6) hx hb dX4_admits_185 (by decide) ?_
      refine g_iald F w (a := (u1 + 1)) (iv_u hku1).2.2 (j := 6) ⟨by decide, by decide⟩ (by omega) dX4_admits_187 ?_
      obtain ⟨z50, bz50, ez50⟩ := Inv.ld (k := 6) hI (iv_up hku1 _) (by have := lt_u hku1; omega)
      refine r_val ez50 ?_
      refine lv_iconst (v := zI 1) hx hb dX4_admits_188 rfl ?_
      refine z_icmp_ne (tgt := 196) hx hb (by omega) (by omega) dX4_admits_189 (by decide) (fun c51 => ?_) (fun c51 => ?_)
      · refine lv_iconst (v := zI 0) hx hb dX4_admits_196 rfl ?_
        refine z_icmp_eq (tgt := 204) hx hb (by omega) (by omega) dX4_admits_197 (by decide) (fun c52 => ?_) (fun c52 => False.elim (by omega))
        refine lv_iconst (v := zI 0) hx hb dX4_admits_204 rfl ?_
        rw [hQ]
        exact e_z F w hr hlocks (nar_z (by omega)) ⟨_, rfl, (by omega), rfl⟩ dX4_admits_205
      · refine lv_iconst (v := zI 1) hx hb dX4_admits_192 rfl ?_
        refine lv_goto (tgt := 197) hx hb dX4_admits_193 (by decide) ?_
        refine z_icmp_eq (tgt := 204) hx hb (by omega) (by omega) dX4_admits_197 (by decide) (fun c53 => False.elim (by omega)) (fun c53 => ?_)
        refine lv_iconst (v := zI 1) hx hb dX4_admits_200 rfl ?_
        refine lv_goto (tgt := 205) hx hb dX4_admits_201 (by decide) ?_
        rw [hQ]
        exact e_z F w hr hlocks (nar_z (by omega)) ⟨_, rfl, (by omega), rfl⟩ dX4_admits_205
    · refine lv_iconst (v := zI 1) hx hb dX4_admits_121 rfl ?_
      refine lv_goto (tgt := 126) hx hb dX4_admits_122 (by decide) ?_
      refine lv_istore (lv' := [(4, .int (zI 1)), (3, .int (zI z3)), (0, .ref (B + u1)), (1, .ref (B + a)), (2, .int (zI t))]) hx hb dX4_admits_126 hl (by decide) rfl (fun ls hl => ?_)
      refine lv_goto (tgt := 179) hx hb dX4_admits_128 (by decide) ?_
      refine lv_iload hx hb dX4_admits_179 (lv_at hl 0 rfl) ?_
      refine lv_aload_n hx hb dX4_admits_181 rfl (lv_at hl 2 rfl) ?_
      refine f_4_0 F w (a := u1) hku1 tb_49 dX4_admits_182 ?_
      refine lv_bipush (v := zI 6) hx hb dX4_admits_185 (by decide) ?_
      refine g_iald F w (a := (u1 + 1)) (iv_u hku1).2.2 (j := 6) ⟨by decide, by decide⟩ (by omega) dX4_admits_187 ?_
      obtain ⟨z54, bz54, ez54⟩ := Inv.ld (k := 6) hI (iv_up hku1 _) (by have := lt_u hku1; omega)
      refine r_val ez54 ?_
      refine lv_iconst (v := zI 1) hx hb dX4_admits_188 rfl ?_
      refine z_icmp_ne (tgt := 196) hx hb (by omega) (by omega) dX4_admits_189 (by decide) (fun c55 => ?_) (fun c55 => ?_)
      · refine lv_iconst (v := zI 0) hx hb dX4_admits_196 rfl ?_
        refine z_icmp_eq (tgt := 204) hx hb (by omega) (by omega) dX4_admits_197 (by decide) (fun c56 => False.elim (by omega)) (fun c56 => ?_)
        refine lv_iconst (v := zI 1) hx hb dX4_admits_200 rfl ?_
        refine lv_goto (tgt := 205) hx hb dX4_admits_201 (by decide) ?_
        rw [hQ]
        exact e_z F w hr hlocks (nar_z (by omega)) ⟨_, rfl, (by omega), rfl⟩ dX4_admits_205
      · refine lv_iconst (v := zI 1) hx hb dX4_admits_192 rfl ?_
        refine lv_goto (tgt := 197) hx hb dX4_admits_193 (by decide) ?_
        refine z_icmp_eq (tgt := 204) hx hb (by omega) (by omega) dX4_admits_197 (by decide) (fun c57 => ?_) (fun c57 => False.elim (by omega))
        refine lv_iconst (v := zI 0) hx hb dX4_admits_204 rfl ?_
        rw [hQ]
        exact e_z F w hr hlocks (nar_z (by omega)) ⟨_, rfl, (by omega), rfl⟩ dX4_admits_205
  · refine r_val (v := zI 4) (congrArg zI c5) ?_
    refine lv_tableIn (tgt := 131) hx hb dX4_admits_12 (by decide) (by decide) (off := 119) rfl (by decide) ?_
    refine lv_iload_n hx hb dX4_admits_131 rfl (lv_at hl 0 rfl) ?_
    refine z_if_ne (tgt := 139) hx hb (by omega) dX4_admits_132 (by decide) (fun c58 => ?_) (fun c58 => ?_)
    · refine lv_iconst (v := zI 0) hx hb dX4_admits_139 rfl ?_
      refine lv_istore (lv' := [(4, .int (zI 0)), (3, .int (zI z3)), (0, .ref (B + u1)), (1, .ref (B + a)), (2, .int (zI t))]) hx hb dX4_admits_140 hl (by decide) rfl (fun ls hl => ?_)
      refine lv_goto (tgt := 179) hx hb dX4_admits_142 (by decide) ?_
      refine lv_iload hx hb dX4_admits_179 (lv_at hl 0 rfl) ?_
      refine lv_aload_n hx hb dX4_admits_181 rfl (lv_at hl 2 rfl) ?_
      refine f_4_0 F w (a := u1) hku1 tb_49 dX4_admits_182 ?_
      refine lv_bipush (v := zI 6) hx hb dX4_admits_185 (by decide) ?_
      refine g_iald F w (a := (u1 + 1)) (iv_u hku1).2.2 (j := 6) ⟨by decide, by decide⟩ (by omega) dX4_admits_187 ?_
      obtain ⟨z59, bz59, ez59⟩ := Inv.ld (k := 6) hI (iv_up hku1 _) (by have := lt_u hku1; omega)
      refine r_val ez59 ?_
      refine lv_iconst (v := zI 1) hx hb dX4_admits_188 rfl ?_
      refine z_icmp_ne (tgt := 196) hx hb (by omega) (by omega) dX4_admits_189 (by decide) (fun c60 => ?_) (fun c60 => ?_)
      · refine lv_iconst (v := zI 0) hx hb dX4_admits_196 rfl ?_
        refine z_icmp_eq (tgt := 204) hx hb (by omega) (by omega) dX4_admits_197 (by decide) (fun c61 => ?_) (fun c61 => False.elim (by omega))
        refine lv_iconst (v := zI 0) hx hb dX4_admits_204 rfl ?_
        rw [hQ]
        exact e_z F w hr hlocks (nar_z (by omega)) ⟨_, rfl, (by omega), rfl⟩ dX4_admits_205
      · refine lv_iconst (v := zI 1) hx hb dX4_admits_192 rfl ?_
        refine lv_goto (tgt := 197) hx hb dX4_admits_193 (by decide) ?_
        refine z_icmp_eq (tgt := 204) hx hb (by omega) (by omega) dX4_admits_197 (by decide) (fun c62 => False.elim (by omega)) (fun c62 => ?_)
        refine lv_iconst (v := zI 1) hx hb dX4_admits_200 rfl ?_
        refine lv_goto (tgt := 205) hx hb dX4_admits_201 (by decide) ?_
        rw [hQ]
        exact e_z F w hr hlocks (nar_z (by omega)) ⟨_, rfl, (by omega), rfl⟩ dX4_admits_205
    · refine lv_iconst (v := zI 1) hx hb dX4_admits_135 rfl ?_
      refine lv_goto (tgt := 140) hx hb dX4_admits_136 (by decide) ?_
      refine lv_istore (lv' := [(4, .int (zI 1)), (3, .int (zI z3)), (0, .ref (B + u1)), (1, .ref (B + a)), (2, .int (zI t))]) hx hb dX4_admits_140 hl (by decide) rfl (fun ls hl => ?_)
      refine lv_goto (tgt := 179) hx hb dX4_admits_142 (by decide) ?_
      refine lv_iload hx hb dX4_admits_179 (lv_at hl 0 rfl) ?_
      refine lv_aload_n hx hb dX4_admits_181 rfl (lv_at hl 2 rfl) ?_
      refine f_4_0 F w (a := u1) hku1 tb_49 dX4_admits_182 ?_
      refine lv_bipush (v := zI 6) hx hb dX4_admits_185 (by decide) ?_
      refine g_iald F w (a := (u1 + 1)) (iv_u hku1).2.2 (j := 6) ⟨by decide, by decide⟩ (by omega) dX4_admits_187 ?_
      obtain ⟨z63, bz63, ez63⟩ := Inv.ld (k := 6) hI (iv_up hku1 _) (by have := lt_u hku1; omega)
      refine r_val ez63 ?_
      refine lv_iconst (v := zI 1) hx hb dX4_admits_188 rfl ?_
      refine z_icmp_ne (tgt := 196) hx hb (by omega) (by omega) dX4_admits_189 (by decide) (fun c64 => ?_) (fun c64 => ?_)
      · refine lv_iconst (v := zI 0) hx hb dX4_admits_196 rfl ?_
        refine z_icmp_eq (tgt := 204) hx hb (by omega) (by omega) dX4_admits_197 (by decide) (fun c65 => False.elim (by omega)) (fun c65 => ?_)
        refine lv_iconst (v := zI 1) hx hb dX4_admits_200 rfl ?_
        refine lv_goto (tgt := 205) hx hb dX4_admits_201 (by decide) ?_
        rw [hQ]
        exact e_z F w hr hlocks (nar_z (by omega)) ⟨_, rfl, (by omega), rfl⟩ dX4_admits_205
      · refine lv_iconst (v := zI 1) hx hb dX4_admits_192 rfl ?_
        refine lv_goto (tgt := 197) hx hb dX4_admits_193 (by decide) ?_
        refine z_icmp_eq (tgt := 204) hx hb (by omega) (by omega) dX4_admits_197 (by decide) (fun c66 => ?_) (fun c66 => False.elim (by omega))
        refine lv_iconst (v := zI 0) hx hb dX4_admits_204 rfl ?_
        rw [hQ]
        exact e_z F w hr hlocks (nar_z (by omega)) ⟨_, rfl, (by omega), rfl⟩ dX4_admits_205
  · refine r_val (v := zI 5) (congrArg zI c5) ?_
    refine lv_tableIn (tgt := 145) hx hb dX4_admits_12 (by decide) (by decide) (off := 133) rfl (by decide) ?_
    refine lv_aload_n hx hb dX4_admits_145 rfl (lv_at hl 1 rfl) ?_
    refine lv_aload_n hx hb dX4_admits_146 rfl (lv_at hl 2 rfl) ?_
    refine lv_iload_n hx hb dX4_admits_147 rfl (lv_at hl 3 rfl) ?_
    refine lv_iconst (v := zI 1) hx hb dX4_admits_148 rfl ?_
    refine z_iadd (z := (t + 1)) hx hb dX4_admits_149 (by omega) ?_
    refine k_Vi F w (As := [.int (zI (t + 1))]) (rest := [.ref (B + u1)]) (a := a) (kd_lt (a := a) hka (by decide)) (sh_9 hka _ _) rfl (q_X9_kindOf (a := a) hka (t := (t + 1)) (by omega)  hI) gv_X4_52 hv_X9_kindOf ⟨(Nat.le_of_ble_eq_true rfl), (Nat.le_of_ble_eq_true rfl)⟩ hl.1 rfl (Nat.le_of_ble_eq_true rfl) ⟨Nat.zero_le _, Nat.zero_le _⟩ dX4_admits_150 (fun r67 N68 H locs hp w => ?_)
    obtain ⟨z69, rfl, bz69, hMN68⟩ := hp
    rw [hMN68] at w
    refine k_Vi F w (As := [.int (zI z69)]) (rest := []) (a := u1) (kd_lt (a := u1) hku1 (by decide)) (sh_4 hku1 _ _) rfl (q_X4_isTestKind (u1 := u1) hku1 (x := z69) (by omega)  hI) gv_X4_55 hv_X4_isTestKind ⟨(Nat.le_of_ble_eq_true rfl), (Nat.le_of_ble_eq_true rfl)⟩ hl.1 rfl (Nat.le_of_ble_eq_true rfl) ⟨Nat.zero_le _, Nat.zero_le _⟩ dX4_admits_153 (fun r70 N71 H locs hp w => ?_)
    obtain ⟨z72, rfl, bz72, hMN71⟩ := hp
    rw [hMN71] at w
    refine lv_istore (lv' := [(4, .int (zI z72)), (3, .int (zI z3)), (0, .ref (B + u1)), (1, .ref (B + a)), (2, .int (zI t))]) hx hb dX4_admits_156 hl (by decide) rfl (fun ls hl => ?_)
    refine lv_goto (tgt := 179) hx hb dX4_admits_158 (by decide) ?_
    refine lv_iload hx hb dX4_admits_179 (lv_at hl 0 rfl) ?_
    refine lv_aload_n hx hb dX4_admits_181 rfl (lv_at hl 2 rfl) ?_
    refine f_4_0 F w (a := u1) hku1 tb_49 dX4_admits_182 ?_
    refine lv_bipush (v := zI 6) hx hb dX4_admits_185 (by decide) ?_
    refine g_iald F w (a := (u1 + 1)) (iv_u hku1).2.2 (j := 6) ⟨by decide, by decide⟩ (by omega) dX4_admits_187 ?_
    obtain ⟨z73, bz73, ez73⟩ := Inv.ld (k := 6) hI (iv_up hku1 _) (by have := lt_u hku1; omega)
    refine r_val ez73 ?_
    refine lv_iconst (v := zI 1) hx hb dX4_admits_188 rfl ?_
    refine z_icmp_ne (tgt := 196) hx hb (by omega) (by omega) dX4_admits_189 (by decide) (fun c74 => ?_) (fun c74 => ?_)
    · refine lv_iconst (v := zI 0) hx hb dX4_admits_196 rfl ?_
      refine z_icmp_eq (tgt := 204) hx hb (by omega) (by omega) dX4_admits_197 (by decide) (fun c75 => ?_) (fun c75 => ?_)
      · refine lv_iconst (v := zI 0) hx hb dX4_admits_204 rfl ?_
        rw [hQ]
        exact e_z F w hr hlocks (nar_z (by omega)) ⟨_, rfl, (by omega), rfl⟩ dX4_admits_205
      · refine lv_iconst (v := zI 1) hx hb dX4_admits_200 rfl ?_
        refine lv_goto (tgt := 205) hx hb dX4_admits_201 (by decide) ?_
        rw [hQ]
        exact e_z F w hr hlocks (nar_z (by omega)) ⟨_, rfl, (by omega), rfl⟩ dX4_admits_205
    · refine lv_iconst (v := zI 1) hx hb dX4_admits_192 rfl ?_
      refine lv_goto (tgt := 197) hx hb dX4_admits_193 (by decide) ?_
      refine z_icmp_eq (tgt := 204) hx hb (by omega) (by omega) dX4_admits_197 (by decide) (fun c76 => ?_) (fun c76 => ?_)
      · refine lv_iconst (v := zI 0) hx hb dX4_admits_204 rfl ?_
        rw [hQ]
        exact e_z F w hr hlocks (nar_z (by omega)) ⟨_, rfl, (by omega), rfl⟩ dX4_admits_205
      · refine lv_iconst (v := zI 1) hx hb dX4_admits_200 rfl ?_
        refine lv_goto (tgt := 205) hx hb dX4_admits_201 (by decide) ?_
        rw [hQ]
        exact e_z F w hr hlocks (nar_z (by omega)) ⟨_, rfl, (by omega), rfl⟩ dX4_admits_205
  · refine r_val (v := zI 6) (congrArg zI c5) ?_
    refine lv_tableIn (tgt := 161) hx hb dX4_admits_12 (by decide) (by decide) (off := 149) rfl (by decide) ?_
    refine lv_aload_n hx hb dX4_admits_161 rfl (lv_at hl 1 rfl) ?_
    refine lv_aload_n hx hb dX4_admits_162 rfl (lv_at hl 2 rfl) ?_
    refine lv_iload_n hx hb dX4_admits_163 rfl (lv_at hl 3 rfl) ?_
    refine lv_iconst (v := zI 1) hx hb dX4_admits_164 rfl ?_
    refine z_isub (z := (t - 1)) hx hb dX4_admits_165 (by omega) ?_
    refine k_Vi F w (As := [.int (zI (t - 1))]) (rest := [.ref (B + u1)]) (a := a) (kd_lt (a := a) hka (by decide)) (sh_9 hka _ _) rfl (q_X9_kindOf (a := a) hka (t := (t - 1)) (by omega)  hI) gv_X4_52 hv_X9_kindOf ⟨(Nat.le_of_ble_eq_true rfl), (Nat.le_of_ble_eq_true rfl)⟩ hl.1 rfl (Nat.le_of_ble_eq_true rfl) ⟨Nat.zero_le _, Nat.zero_le _⟩ dX4_admits_166 (fun r77 N78 H locs hp w => ?_)
    obtain ⟨z79, rfl, bz79, hMN78⟩ := hp
    rw [hMN78] at w
    refine k_Vi F w (As := [.int (zI z79)]) (rest := []) (a := u1) (kd_lt (a := u1) hku1 (by decide)) (sh_4 hku1 _ _) rfl (q_X4_isTestKind (u1 := u1) hku1 (x := z79) (by omega)  hI) gv_X4_55 hv_X4_isTestKind ⟨(Nat.le_of_ble_eq_true rfl), (Nat.le_of_ble_eq_true rfl)⟩ hl.1 rfl (Nat.le_of_ble_eq_true rfl) ⟨Nat.zero_le _, Nat.zero_le _⟩ dX4_admits_169 (fun r80 N81 H locs hp w => ?_)
    obtain ⟨z82, rfl, bz82, hMN81⟩ := hp
    rw [hMN81] at w
    refine lv_istore (lv' := [(4, .int (zI z82)), (3, .int (zI z3)), (0, .ref (B + u1)), (1, .ref (B + a)), (2, .int (zI t))]) hx hb dX4_admits_172 hl (by decide) rfl (fun ls hl => ?_)
    refine lv_goto (tgt := 179) hx hb dX4_admits_174 (by decide) ?_
    refine lv_iload hx hb dX4_admits_179 (lv_at hl 0 rfl) ?_
    refine lv_aload_n hx hb dX4_admits_181 rfl (lv_at hl 2 rfl) ?_
    refine f_4_0 F w (a := u1) hku1 tb_49 dX4_admits_182 ?_
    refine lv_bipush (v := zI 6) hx hb dX4_admits_185 (by decide) ?_
    refine g_iald F w (a := (u1 + 1)) (iv_u hku1).2.2 (j := 6) ⟨by decide, by decide⟩ (by omega) dX4_admits_187 ?_
    obtain ⟨z83, bz83, ez83⟩ := Inv.ld (k := 6) hI (iv_up hku1 _) (by have := lt_u hku1; omega)
    refine r_val ez83 ?_
    refine lv_iconst (v := zI 1) hx hb dX4_admits_188 rfl ?_
    refine z_icmp_ne (tgt := 196) hx hb (by omega) (by omega) dX4_admits_189 (by decide) (fun c84 => ?_) (fun c84 => ?_)
    · refine lv_iconst (v := zI 0) hx hb dX4_admits_196 rfl ?_
      refine z_icmp_eq (tgt := 204) hx hb (by omega) (by omega) dX4_admits_197 (by decide) (fun c85 => ?_) (fun c85 => ?_)
      · refine lv_iconst (v := zI 0) hx hb dX4_admits_204 rfl ?_
        rw [hQ]
        exact e_z F w hr hlocks (nar_z (by omega)) ⟨_, rfl, (by omega), rfl⟩ dX4_admits_205
      · refine lv_iconst (v := zI 1) hx hb dX4_admits_200 rfl ?_
        refine lv_goto (tgt := 205) hx hb dX4_admits_201 (by decide) ?_
        rw [hQ]
        exact e_z F w hr hlocks (nar_z (by omega)) ⟨_, rfl, (by omega), rfl⟩ dX4_admits_205
    · refine lv_iconst (v := zI 1) hx hb dX4_admits_192 rfl ?_
      refine lv_goto (tgt := 197) hx hb dX4_admits_193 (by decide) ?_
      refine z_icmp_eq (tgt := 204) hx hb (by omega) (by omega) dX4_admits_197 (by decide) (fun c86 => ?_) (fun c86 => ?_)
      · refine lv_iconst (v := zI 0) hx hb dX4_admits_204 rfl ?_
        rw [hQ]
        exact e_z F w hr hlocks (nar_z (by omega)) ⟨_, rfl, (by omega), rfl⟩ dX4_admits_205
      · refine lv_iconst (v := zI 1) hx hb dX4_admits_200 rfl ?_
        refine lv_goto (tgt := 205) hx hb dX4_admits_201 (by decide) ?_
        rw [hQ]
        exact e_z F w hr hlocks (nar_z (by omega)) ⟨_, rfl, (by omega), rfl⟩ dX4_admits_205
  · refine lv_tableOut (tgt := 177) hx hb dX4_admits_12 (by rw [zI_toInt (by omega)]; omega) (by decide) ?_
    refine lv_iconst (v := zI 1) hx hb dX4_admits_177 rfl ?_
    rw [hQ]
    exact e_z F w hr hlocks (nar_z (by omega)) ⟨_, rfl, (by omega), rfl⟩ dX4_admits_178
theorem dX4_copyFrom_0 : decode cX4_copyFrom 0 = .ok (.aload_n 1, 1) := rdX4_copyFrom_0
theorem dX4_copyFrom_1 : decode cX4_copyFrom 1 = .ok (.getfield 9, 3) := rdX4_copyFrom_1
theorem dX4_copyFrom_4 : decode cX4_copyFrom 4 = .ok (.iconst 0, 1) := rdX4_copyFrom_4
theorem dX4_copyFrom_5 : decode cX4_copyFrom 5 = .ok (.aload_n 0, 1) := rdX4_copyFrom_5
theorem dX4_copyFrom_6 : decode cX4_copyFrom 6 = .ok (.getfield 9, 3) := rdX4_copyFrom_6
theorem dX4_copyFrom_9 : decode cX4_copyFrom 9 = .ok (.iconst 0, 1) := rdX4_copyFrom_9
theorem dX4_copyFrom_10 : decode cX4_copyFrom 10 = .ok (.bipush 8, 2) := rdX4_copyFrom_10
theorem dX4_copyFrom_12 : decode cX4_copyFrom 12 = .ok (.invokestatic 21, 3) := rdX4_copyFrom_12
theorem tb_122 : Cond.methodLink "ToneLines$Rule" 21 arraycopyName ∈ TB := rtb_82
theorem dX4_copyFrom_15 : decode cX4_copyFrom 15 = .ok (.return_, 1) := rdX4_copyFrom_15
set_option maxRecDepth 4000 in
theorem q_X4_copyFrom {l : Launch} {D : va_G} {B : Nat} {cy : Nat → ClassId} {M : Mem} {u1 : Nat} (hku1 : kd u1 = (4, 0, 0)) {u2 : Nat} (hku2 : kd u2 = (4, 0, 0)) (hI : Inv M) : Cv l D B cy yX4_copyFrom cX4_copyFrom 2 1 40 [.ref (B + u1), .ref (B + u2)] M (fun M1 => Inv M1 ∧ Fr (fun b9 k9 => b9 = (u1 + 1)) M1 M) := by
  refine s_anyQ (by decide) (Nat.le_of_ble_eq_true rfl) ?_
  intro p e s m args below meth c ls Q F hr hlocks hQ w hl
  have F : CallFix p m c cX4_copyFrom 2 s args TB RX4 := F
  have hx := F.1
  have hb := F.2.1
  have hl : lv_has ls 2 [(0, .ref (B + u1)), (1, .ref (B + u2))] := hl
  have hF : Fr (fun b9 k9 => b9 = (u1 + 1)) M M := Fr.rf
  refine lv_aload_n hx hb dX4_copyFrom_0 rfl (lv_at hl 1 rfl) ?_
  refine f_4_0 F w (a := u2) hku2 tb_49 dX4_copyFrom_1 ?_
  refine lv_iconst (v := zI 0) hx hb dX4_copyFrom_4 rfl ?_
  refine lv_aload_n hx hb dX4_copyFrom_5 rfl (lv_at hl 0 rfl) ?_
  refine f_4_0 F w (a := u1) hku1 tb_49 dX4_copyFrom_6 ?_
  refine lv_iconst (v := zI 0) hx hb dX4_copyFrom_9 rfl ?_
  refine lv_bipush (v := zI 8) hx hb dX4_copyFrom_10 (by decide) ?_
  refine g_copyi F w (a0 := (u2 + 1)) (a1 := (u1 + 1)) (iv_u hku2).2.2 (iv_u hku1).2.2 hl.1 tb_122 tb_33 tb_34 tb_35 (by decide) (by decide) (by decide) (by decide) (by decide) (Nat.le_of_ble_eq_true rfl) (Nat.le_of_ble_eq_true rfl) dX4_copyFrom_12 (fun H locs w => ?_)
  have hIN1 : Inv (sA M (u1 + 1) (va_cpy (Prod.fst M (u2 + 1)) (Prod.fst M (u1 + 1)) 0 0 8)) := Inv.cp hI (fun _ => (iv_up hku2 _)) (fun _ => (iv_up hku1 _)) (by have := lt_u hku2; omega)
  have hFN1 : Fr (fun b9 k9 => b9 = (u1 + 1)) (sA M (u1 + 1) (va_cpy (Prod.fst M (u2 + 1)) (Prod.fst M (u1 + 1)) 0 0 8)) M := Fr.sA hF (fun k => by first | omega | (dsimp only; first | done | omega))
  replace w : Wd D B cy s s.heap (sA M (u1 + 1) (va_cpy (Prod.fst M (u2 + 1)) (Prod.fst M (u1 + 1)) 0 0 8)) H locs := w
  generalize (sA M (u1 + 1) (va_cpy (Prod.fst M (u2 + 1)) (Prod.fst M (u1 + 1)) 0 0 8)) = N1 at w hIN1 hFN1
  rw [hQ]
  exact e_v F w hr hlocks ⟨hIN1, hFN1⟩ dX4_copyFrom_15
set_option maxRecDepth 4000 in
theorem q_X1_floatingFor {l : Launch} {D : va_G} {B : Nat} {cy : Nat → ClassId} {M : Mem} {a : Nat} (hka : kd a = (9, 0, 0)) {y : Int} (hy : 0 ≤ y ∧ y ≤ 11) {x : Int} (hx : 0 ≤ x ∧ x ≤ 1) (hI : Inv M) : Ci l D B cy yX1_floatingFor cX1_floatingFor 6 (some .int) 2 48 [.ref (B + 23), .ref (B + a), .int (zI y), .int (zI x)] M (fun r M1 => ∃ z : Int, r = zI z ∧ ((-11) ≤ z ∧ z ≤ 11) ∧ M1 = M) := by
  refine s_anyQ (by decide) (Nat.le_of_ble_eq_true rfl) ?_
  intro p e s m args below meth c ls Q F hr hlocks hQ w hl
  have F : CallFix p m c cX1_floatingFor 6 s args TB RX1 := F
  have hx := F.1
  have hb := F.2.1
  have hl : lv_has ls 6 [(0, .ref (B + 23)), (1, .ref (B + a)), (2, .int (zI y)), (3, .int (zI x))] := hl
  refine lv_iconst (v := zI 0) hx hb dX1_floatingFor_0 rfl ?_
  refine lv_istore (lv' := [(4, .int (zI 0)), (0, .ref (B + 23)), (1, .ref (B + a)), (2, .int (zI y)), (3, .int (zI x))]) hx hb dX1_floatingFor_1 hl (by decide) rfl (fun ls hl => ?_)
  have lp3 : ∀ (f : Nat) (v4_3 : Int), (0 ≤ v4_3 ∧ v4_3 ≤ 12) → (Int.toNat (12 - v4_3) < f) → ∀ (H : Heap) (locs : List Loc) (ls : Array Slot), Wd D B cy s s.heap M H locs → lv_has ls 6 [(4, .int (zI v4_3)), (0, .ref (B + 23)), (1, .ref (B + a)), (2, .int (zI y)), (3, .int (zI x))] → W p l e (rmm 2 48) s m args below meth c H locs 0 0 Q (F0 m 3 ls []) := by
    intro f
    induction f with
    | zero => intros; omega
    | succ f ih3 =>
      intro v4_3  iv4_3 hf3 H locs ls w hl
      refine lv_iload hx hb dX1_floatingFor_3 (lv_at hl 0 rfl) ?_
      refine lv_aload_n hx hb dX1_floatingFor_5 rfl (lv_at hl 2 rfl) ?_
      refine f_9_0 F w (a := a) hka tb_62 dX1_floatingFor_6 ?_
      obtain ⟨z1, bz1, ez1⟩ := Inv.ld (k := 0) hI (iv_w0 hka) (by have := lt_w hka; omega)
      refine r_val ez1 ?_
      refine z_icmp_ge (tgt := 60) hx hb (by omega) (by omega) dX1_floatingFor_9 (by decide) (fun c2 => ?_) (fun c2 => ?_)
      · refine lv_iconst (v := zI (-1)) hx hb dX1_floatingFor_60 rfl ?_
        rw [hQ]
        exact e_i F w hr hlocks ⟨_, rfl, (by omega), rfl⟩ dX1_floatingFor_61
      · refine lv_iload_n hx hb dX1_floatingFor_12 rfl (lv_at hl 4 rfl) ?_
        refine z_if_eq (tgt := 28) hx hb (by omega) dX1_floatingFor_13 (by decide) (fun c3 => ?_) (fun c3 => ?_)
        · refine lv_iload hx hb dX1_floatingFor_28 (lv_at hl 0 rfl) ?_
          refine lv_istore (lv' := [(5, .int (zI v4_3)), (4, .int (zI v4_3)), (0, .ref (B + 23)), (1, .ref (B + a)), (2, .int (zI y)), (3, .int (zI x))]) hx hb dX1_floatingFor_30 hl (by decide) rfl (fun ls hl => ?_)
          refine lv_aload_n hx hb dX1_floatingFor_32 rfl (lv_at hl 3 rfl) ?_
          refine lv_iload hx hb dX1_floatingFor_33 (lv_at hl 0 rfl) ?_
          refine k_Vi F w (As := [.int (zI v4_3)]) (rest := []) (a := a) (kd_lt (a := a) hka (by decide)) (sh_9 hka _ _) rfl (q_X9_linesFrom (a := a) hka (t := v4_3) (by omega)  hI) gv_X1_56 hv_X9_linesFrom ⟨(Nat.le_of_ble_eq_true rfl), (Nat.le_of_ble_eq_true rfl)⟩ hl.1 rfl (Nat.le_of_ble_eq_true rfl) ⟨Nat.zero_le _, Nat.zero_le _⟩ dX1_floatingFor_35 (fun r4 N5 H locs hp w => ?_)
          obtain ⟨z6, rfl, bz6, hMN5⟩ := hp
          rw [hMN5] at w
          refine z_if_ne (tgt := 54) hx hb (by omega) dX1_floatingFor_38 (by decide) (fun c7 => ?_) (fun c7 => ?_)
          · refine z_iinc (v := (v4_3 + 1)) (lv' := [(4, .int (zI (v4_3 + 1))), (5, .int (zI v4_3)), (0, .ref (B + 23)), (1, .ref (B + a)), (2, .int (zI y)), (3, .int (zI x))]) hx hb dX1_floatingFor_54 hl (k := 1) rfl (by omega) (by decide) rfl (fun ls hl => ?_)
            refine lv_goto (tgt := 3) hx hb dX1_floatingFor_57 (by decide) ?_
            exact ih3 (v4_3 + 1) (by omega)     (by omega) _ _ _ w (lv_sub hl [0, 2, 3, 4, 5] rfl)
          · refine lv_aload_n hx hb dX1_floatingFor_41 rfl (lv_at hl 3 rfl) ?_
            refine lv_iload hx hb dX1_floatingFor_42 (lv_at hl 0 rfl) ?_
            refine lv_iload_n hx hb dX1_floatingFor_44 rfl (lv_at hl 4 rfl) ?_
            refine k_Vi F w (As := [.int (zI v4_3), .int (zI y)]) (rest := []) (a := a) (kd_lt (a := a) hka (by decide)) (sh_9 hka _ _) rfl (q_X9_isOpen (a := a) hka (t := v4_3) (by omega) (y := y) (by omega)  hI) gv_X1_60 hv_X9_isOpen ⟨(Nat.le_of_ble_eq_true rfl), (Nat.le_of_ble_eq_true rfl)⟩ hl.1 rfl (Nat.le_of_ble_eq_true rfl) ⟨Nat.zero_le _, Nat.zero_le _⟩ dX1_floatingFor_45 (fun r8 N9 H locs hp w => ?_)
            obtain ⟨z10, rfl, bz10, xz10, hMN9⟩ := hp
            rw [hMN9] at w
            refine z_if_eq (tgt := 54) hx hb (by omega) dX1_floatingFor_48 (by decide) (fun c11 => ?_) (fun c11 => ?_)
            · refine z_iinc (v := (v4_3 + 1)) (lv' := [(4, .int (zI (v4_3 + 1))), (5, .int (zI v4_3)), (0, .ref (B + 23)), (1, .ref (B + a)), (2, .int (zI y)), (3, .int (zI x))]) hx hb dX1_floatingFor_54 hl (k := 1) rfl (by omega) (by decide) rfl (fun ls hl => ?_)
              refine lv_goto (tgt := 3) hx hb dX1_floatingFor_57 (by decide) ?_
              exact ih3 (v4_3 + 1) (by omega)     (by omega) _ _ _ w (lv_sub hl [0, 2, 3, 4, 5] rfl)
            · refine lv_iload hx hb dX1_floatingFor_51 (lv_at hl 0 rfl) ?_
              rw [hQ]
              exact e_i F w hr hlocks ⟨_, rfl, (by omega), rfl⟩ dX1_floatingFor_53
        · refine lv_aload_n hx hb dX1_floatingFor_16 rfl (lv_at hl 2 rfl) ?_
          refine f_9_0 F w (a := a) hka tb_62 dX1_floatingFor_17 ?_
          refine r_val (v := zI z1) (ez1) ?_
          refine lv_iconst (v := zI 1) hx hb dX1_floatingFor_20 rfl ?_
          refine z_isub (z := (z1 - 1)) hx hb dX1_floatingFor_21 (by omega) ?_
          refine lv_iload hx hb dX1_floatingFor_22 (lv_at hl 0 rfl) ?_
          refine z_isub (z := ((z1 - 1) - v4_3)) hx hb dX1_floatingFor_24 (by omega) ?_
          refine lv_goto (tgt := 30) hx hb dX1_floatingFor_25 (by decide) ?_
          refine lv_istore (lv' := [(5, .int (zI ((z1 - 1) - v4_3))), (4, .int (zI v4_3)), (0, .ref (B + 23)), (1, .ref (B + a)), (2, .int (zI y)), (3, .int (zI x))]) hx hb dX1_floatingFor_30 hl (by decide) rfl (fun ls hl => ?_)
          refine lv_aload_n hx hb dX1_floatingFor_32 rfl (lv_at hl 3 rfl) ?_
          refine lv_iload hx hb dX1_floatingFor_33 (lv_at hl 0 rfl) ?_
          refine k_Vi F w (As := [.int (zI ((z1 - 1) - v4_3))]) (rest := []) (a := a) (kd_lt (a := a) hka (by decide)) (sh_9 hka _ _) rfl (q_X9_linesFrom (a := a) hka (t := ((z1 - 1) - v4_3)) (by omega)  hI) gv_X1_56 hv_X9_linesFrom ⟨(Nat.le_of_ble_eq_true rfl), (Nat.le_of_ble_eq_true rfl)⟩ hl.1 rfl (Nat.le_of_ble_eq_true rfl) ⟨Nat.zero_le _, Nat.zero_le _⟩ dX1_floatingFor_35 (fun r12 N13 H locs hp w => ?_)
          obtain ⟨z14, rfl, bz14, hMN13⟩ := hp
          rw [hMN13] at w
          refine z_if_ne (tgt := 54) hx hb (by omega) dX1_floatingFor_38 (by decide) (fun c15 => ?_) (fun c15 => ?_)
          · refine z_iinc (v := (v4_3 + 1)) (lv' := [(4, .int (zI (v4_3 + 1))), (5, .int (zI ((z1 - 1) - v4_3))), (0, .ref (B + 23)), (1, .ref (B + a)), (2, .int (zI y)), (3, .int (zI x))]) hx hb dX1_floatingFor_54 hl (k := 1) rfl (by omega) (by decide) rfl (fun ls hl => ?_)
            refine lv_goto (tgt := 3) hx hb dX1_floatingFor_57 (by decide) ?_
            exact ih3 (v4_3 + 1) (by omega)     (by omega) _ _ _ w (lv_sub hl [0, 2, 3, 4, 5] rfl)
          · refine lv_aload_n hx hb dX1_floatingFor_41 rfl (lv_at hl 3 rfl) ?_
            refine lv_iload hx hb dX1_floatingFor_42 (lv_at hl 0 rfl) ?_
            refine lv_iload_n hx hb dX1_floatingFor_44 rfl (lv_at hl 4 rfl) ?_
            refine k_Vi F w (As := [.int (zI ((z1 - 1) - v4_3)), .int (zI y)]) (rest := []) (a := a) (kd_lt (a := a) hka (by decide)) (sh_9 hka _ _) rfl (q_X9_isOpen (a := a) hka (t := ((z1 - 1) - v4_3)) (by omega) (y := y) (by omega)  hI) gv_X1_60 hv_X9_isOpen ⟨(Nat.le_of_ble_eq_true rfl), (Nat.le_of_ble_eq_true rfl)⟩ hl.1 rfl (Nat.le_of_ble_eq_true rfl) ⟨Nat.zero_le _, Nat.zero_le _⟩ dX1_floatingFor_45 (fun r16 N17 H locs hp w => ?_)
            obtain ⟨z18, rfl, bz18, xz18, hMN17⟩ := hp
            rw [hMN17] at w
            refine z_if_eq (tgt := 54) hx hb (by omega) dX1_floatingFor_48 (by decide) (fun c19 => ?_) (fun c19 => ?_)
            · refine z_iinc (v := (v4_3 + 1)) (lv' := [(4, .int (zI (v4_3 + 1))), (5, .int (zI ((z1 - 1) - v4_3))), (0, .ref (B + 23)), (1, .ref (B + a)), (2, .int (zI y)), (3, .int (zI x))]) hx hb dX1_floatingFor_54 hl (k := 1) rfl (by omega) (by decide) rfl (fun ls hl => ?_)
              refine lv_goto (tgt := 3) hx hb dX1_floatingFor_57 (by decide) ?_
              exact ih3 (v4_3 + 1) (by omega)     (by omega) _ _ _ w (lv_sub hl [0, 2, 3, 4, 5] rfl)
            · refine lv_iload hx hb dX1_floatingFor_51 (lv_at hl 0 rfl) ?_
              rw [hQ]
              exact e_i F w hr hlocks ⟨_, rfl, (by omega), rfl⟩ dX1_floatingFor_53
  exact lp3 _ 0 (by omega) (Nat.lt_succ_self _) _ _ _ w (lv_sub hl [0, 1, 2, 3, 4] rfl)
set_option maxRecDepth 4000 in
theorem q_X1_passOfLink {l : Launch} {D : va_G} {B : Nat} {cy : Nat → ClassId} {M : Mem} {u1 : Nat} (hku1 : kd u1 = (4, 0, 0)) {a : Nat} (hka : kd a = (9, 0, 0)) (hI : Inv M) : Ci l D B cy yX1_passOfLink cX1_passOfLink 8 (some .int) 3 73 [.ref (B + 23), .ref (B + u1), .ref (B + a)] M (fun r M1 => ∃ z : Int, r = zI z ∧ ((-2147483648) ≤ z ∧ z ≤ 2147483647) ∧ Inv M1 ∧ Fr (fun b9 k9 => b9 = (a + 2)) M1 M) := by
  refine s_anyQ (by decide) (Nat.le_of_ble_eq_true rfl) ?_
  intro p e s m args below meth c ls Q F hr hlocks hQ w hl
  have F : CallFix p m c cX1_passOfLink 8 s args TB RX1 := F
  have hx := F.1
  have hb := F.2.1
  have hl : lv_has ls 8 [(0, .ref (B + 23)), (1, .ref (B + u1)), (2, .ref (B + a))] := hl
  have hF : Fr (fun b9 k9 => b9 = (a + 2)) M M := Fr.rf
  refine lv_aload_n hx hb dX1_passOfLink_0 rfl (lv_at hl 1 rfl) ?_
  refine f_4_0 F w (a := u1) hku1 tb_79 dX1_passOfLink_1 ?_
  refine lv_iconst (v := zI 4) hx hb dX1_passOfLink_4 rfl ?_
  refine g_iald F w (a := (u1 + 1)) (iv_u hku1).2.2 (j := 4) ⟨by decide, by decide⟩ (by omega) dX1_passOfLink_5 ?_
  obtain ⟨z1, bz1, ez1⟩ := Inv.ld (k := 4) hI (iv_up hku1 _) (by have := lt_u hku1; omega)
  refine r_val ez1 ?_
  refine lv_iconst (v := zI 1) hx hb dX1_passOfLink_6 rfl ?_
  refine z_icmp_ne (tgt := 14) hx hb (by omega) (by omega) dX1_passOfLink_7 (by decide) (fun c2 => ?_) (fun c2 => ?_)
  · refine lv_iconst (v := zI 0) hx hb dX1_passOfLink_14 rfl ?_
    refine lv_istore_n (lv' := [(3, .int (zI 0)), (0, .ref (B + 23)), (1, .ref (B + u1)), (2, .ref (B + a))]) hx hb dX1_passOfLink_15 rfl hl (by decide) rfl (fun ls hl => ?_)
    refine lv_iconst (v := zI 0) hx hb dX1_passOfLink_16 rfl ?_
    refine lv_istore (lv' := [(4, .int (zI 0)), (3, .int (zI 0)), (0, .ref (B + 23)), (1, .ref (B + u1)), (2, .ref (B + a))]) hx hb dX1_passOfLink_17 hl (by decide) rfl (fun ls hl => ?_)
    refine lv_iconst (v := zI 0) hx hb dX1_passOfLink_19 rfl ?_
    refine lv_istore (lv' := [(5, .int (zI 0)), (4, .int (zI 0)), (3, .int (zI 0)), (0, .ref (B + 23)), (1, .ref (B + u1)), (2, .ref (B + a))]) hx hb dX1_passOfLink_20 hl (by decide) rfl (fun ls hl => ?_)
    have lp22 : ∀ (f : Nat) (v5_22 : Int) (v4_22 : Int)  (NL22 : Mem), (0 ≤ v5_22 ∧ v5_22 ≤ 12) → ((-2147483648) ≤ v4_22 ∧ v4_22 ≤ 2147483647) → Inv NL22 → Fr (fun b9 k9 => b9 = (a + 2)) NL22 M → (Int.toNat (12 - v5_22) < f) → ∀ (H : Heap) (locs : List Loc) (ls : Array Slot), Wd D B cy s s.heap NL22 H locs → lv_has ls 8 [(5, .int (zI v5_22)), (4, .int (zI v4_22)), (3, .int (zI 0)), (0, .ref (B + 23)), (1, .ref (B + u1)), (2, .ref (B + a))] → W p l e (rmm 3 73) s m args below meth c H locs 0 0 Q (F0 m 22 ls []) := by
      intro f
      induction f with
      | zero => intros; omega
      | succ f ih22 =>
        intro v5_22 v4_22  NL22 iv5_22 iv4_22 hIL22 hFL22 hf22 H locs ls w hl
        refine lv_iload hx hb dX1_passOfLink_22 (lv_at hl 0 rfl) ?_
        refine lv_aload_n hx hb dX1_passOfLink_24 rfl (lv_at hl 5 rfl) ?_
        refine f_9_1 F w (a := a) hka tb_69 dX1_passOfLink_25 ?_
        obtain ⟨z3, bz3, ez3⟩ := Inv.ld (k := 1) hIL22 (iv_w1 hka) (by have := lt_w hka; omega)
        refine r_val ez3 ?_
        refine z_icmp_ge (tgt := 106) hx hb (by omega) (by omega) dX1_passOfLink_28 (by decide) (fun c4 => ?_) (fun c4 => ?_)
        · refine lv_iload hx hb dX1_passOfLink_106 (lv_at hl 1 rfl) ?_
          rw [hQ]
          exact e_i F w hr hlocks ⟨_, rfl, (by omega), hIL22, hFL22⟩ dX1_passOfLink_108
        · refine lv_iload_n hx hb dX1_passOfLink_31 rfl (lv_at hl 2 rfl) ?_
          refine z_if_eq (tgt := 47) hx hb (by omega) dX1_passOfLink_32 (by decide) (fun c5 => ?_) (fun c5 => False.elim (by omega))
          refine lv_iload hx hb dX1_passOfLink_47 (lv_at hl 0 rfl) ?_
          refine lv_istore (lv' := [(6, .int (zI v5_22)), (5, .int (zI v5_22)), (4, .int (zI v4_22)), (3, .int (zI 0)), (0, .ref (B + 23)), (1, .ref (B + u1)), (2, .ref (B + a))]) hx hb dX1_passOfLink_49 hl (by decide) rfl (fun ls hl => ?_)
          refine lv_aload_n hx hb dX1_passOfLink_51 rfl (lv_at hl 6 rfl) ?_
          refine lv_iload hx hb dX1_passOfLink_52 (lv_at hl 0 rfl) ?_
          refine k_Vi F w (As := [.int (zI v5_22)]) (rest := []) (a := a) (kd_lt (a := a) hka (by decide)) (sh_9 hka _ _) rfl (q_X9_isBare (a := a) hka (y := v5_22) (by omega)  hIL22) gv_X1_39 hv_X9_isBare ⟨(Nat.le_of_ble_eq_true rfl), (Nat.le_of_ble_eq_true rfl)⟩ hl.1 rfl (Nat.le_of_ble_eq_true rfl) ⟨Nat.zero_le _, Nat.zero_le _⟩ dX1_passOfLink_54 (fun r6 N7 H locs hp w => ?_)
          obtain ⟨z8, rfl, bz8, xz8, hMN7⟩ := hp
          rw [hMN7] at w
          refine z_if_eq (tgt := 71) hx hb (by omega) dX1_passOfLink_57 (by decide) (fun c9 => ?_) (fun c9 => ?_)
          · refine lv_iconst (v := zI (-1)) hx hb dX1_passOfLink_71 rfl ?_
            refine lv_istore (lv' := [(7, .int (zI (-1))), (6, .int (zI v5_22)), (5, .int (zI v5_22)), (4, .int (zI v4_22)), (3, .int (zI 0)), (0, .ref (B + 23)), (1, .ref (B + u1)), (2, .ref (B + a))]) hx hb dX1_passOfLink_72 hl (by decide) rfl (fun ls hl => ?_)
            refine lv_aload_n hx hb dX1_passOfLink_74 rfl (lv_at hl 7 rfl) ?_
            refine lv_iload hx hb dX1_passOfLink_75 (lv_at hl 0 rfl) ?_
            obtain ⟨z10, bz10, ez10⟩ := Inv.ld (k := 0) hIL22 (iv_w0 hka) (by have := lt_w hka; omega)
            refine k_Vi F w (As := [.int (zI (-1))]) (rest := []) (a := a) (kd_lt (a := a) hka (by decide)) (sh_9 hka _ _) rfl (q_X9_hasTone (a := a) hka (t := (-1)) (by omega) (nn := z10) (ez10) (by omega)  hIL22) gv_X1_47 hv_X9_hasTone ⟨(Nat.le_of_ble_eq_true rfl), (Nat.le_of_ble_eq_true rfl)⟩ hl.1 rfl (Nat.le_of_ble_eq_true rfl) ⟨Nat.zero_le _, Nat.zero_le _⟩ dX1_passOfLink_77 (fun r11 N12 H locs hp w => ?_)
            obtain ⟨z13, rfl, bz13, xz13, hMN12⟩ := hp
            rw [hMN12] at w
            refine z_if_eq (tgt := 100) hx hb (by omega) dX1_passOfLink_80 (by decide) (fun c14 => ?_) (fun c14 => False.elim (by omega))
            refine z_iinc (v := (v5_22 + 1)) (lv' := [(5, .int (zI (v5_22 + 1))), (7, .int (zI (-1))), (6, .int (zI v5_22)), (4, .int (zI v4_22)), (3, .int (zI 0)), (0, .ref (B + 23)), (1, .ref (B + u1)), (2, .ref (B + a))]) hx hb dX1_passOfLink_100 hl (k := 2) rfl (by omega) (by decide) rfl (fun ls hl => ?_)
            refine lv_goto (tgt := 22) hx hb dX1_passOfLink_103 (by decide) ?_
            exact ih22 (v5_22 + 1) v4_22 NL22 (by omega) (by omega)    hIL22 hFL22 (by omega) _ _ _ w (lv_sub hl [0, 3, 4, 5, 6, 7] rfl)
          · refine lv_aload_n hx hb dX1_passOfLink_60 rfl (lv_at hl 4 rfl) ?_
            refine lv_aload_n hx hb dX1_passOfLink_61 rfl (lv_at hl 6 rfl) ?_
            refine lv_iload hx hb dX1_passOfLink_62 (lv_at hl 0 rfl) ?_
            refine lv_iload_n hx hb dX1_passOfLink_64 rfl (lv_at hl 3 rfl) ?_
            refine k_Vi F w (As := [.ref (B + a), .int (zI v5_22), .int (zI 0)]) (rest := []) (a := 23) (kd_lt (a := 23) (show kd 23 = (1, 0, 0) from rfl) (by decide)) (sh_1 rfl _ _) rfl (q_X1_floatingFor (a := a) hka (y := v5_22) (by omega) (x := 0) (by omega)  hIL22) gv_X1_43 hv_X1_floatingFor ⟨(Nat.le_of_ble_eq_true rfl), (Nat.le_of_ble_eq_true rfl)⟩ hl.1 rfl (Nat.le_of_ble_eq_true rfl) ⟨Nat.zero_le _, Nat.zero_le _⟩ dX1_passOfLink_65 (fun r15 N16 H locs hp w => ?_)
            obtain ⟨z17, rfl, bz17, hMN16⟩ := hp
            rw [hMN16] at w
            refine lv_goto (tgt := 72) hx hb dX1_passOfLink_68 (by decide) ?_
            refine lv_istore (lv' := [(7, .int (zI z17)), (6, .int (zI v5_22)), (5, .int (zI v5_22)), (4, .int (zI v4_22)), (3, .int (zI 0)), (0, .ref (B + 23)), (1, .ref (B + u1)), (2, .ref (B + a))]) hx hb dX1_passOfLink_72 hl (by decide) rfl (fun ls hl => ?_)
            refine lv_aload_n hx hb dX1_passOfLink_74 rfl (lv_at hl 7 rfl) ?_
            refine lv_iload hx hb dX1_passOfLink_75 (lv_at hl 0 rfl) ?_
            obtain ⟨z18, bz18, ez18⟩ := Inv.ld (k := 0) hIL22 (iv_w0 hka) (by have := lt_w hka; omega)
            refine k_Vi F w (As := [.int (zI z17)]) (rest := []) (a := a) (kd_lt (a := a) hka (by decide)) (sh_9 hka _ _) rfl (q_X9_hasTone (a := a) hka (t := z17) (by omega) (nn := z18) (ez18) (by omega)  hIL22) gv_X1_47 hv_X9_hasTone ⟨(Nat.le_of_ble_eq_true rfl), (Nat.le_of_ble_eq_true rfl)⟩ hl.1 rfl (Nat.le_of_ble_eq_true rfl) ⟨Nat.zero_le _, Nat.zero_le _⟩ dX1_passOfLink_77 (fun r19 N20 H locs hp w => ?_)
            obtain ⟨z21, rfl, bz21, xz21, hMN20⟩ := hp
            rw [hMN20] at w
            refine z_if_eq (tgt := 100) hx hb (by omega) dX1_passOfLink_80 (by decide) (fun c22 => ?_) (fun c22 => ?_)
            · refine z_iinc (v := (v5_22 + 1)) (lv' := [(5, .int (zI (v5_22 + 1))), (7, .int (zI z17)), (6, .int (zI v5_22)), (4, .int (zI v4_22)), (3, .int (zI 0)), (0, .ref (B + 23)), (1, .ref (B + u1)), (2, .ref (B + a))]) hx hb dX1_passOfLink_100 hl (k := 2) rfl (by omega) (by decide) rfl (fun ls hl => ?_)
              refine lv_goto (tgt := 22) hx hb dX1_passOfLink_103 (by decide) ?_
              exact ih22 (v5_22 + 1) v4_22 NL22 (by omega) (by omega)    hIL22 hFL22 (by omega) _ _ _ w (lv_sub hl [0, 3, 4, 5, 6, 7] rfl)
            · refine lv_aload_n hx hb dX1_passOfLink_83 rfl (lv_at hl 7 rfl) ?_
              refine f_9_5 F w (a := a) hka tb_78 dX1_passOfLink_84 ?_
              refine lv_iload hx hb dX1_passOfLink_87 (lv_at hl 0 rfl) ?_
              refine lv_dup2_11 hx hb dX1_passOfLink_89 rfl rfl ?_
              refine g_iald F w (a := (a + 2)) (kd_w2 hka) (j := (Int.toNat z17)) (ix_z (by omega) (by omega)) (by omega) dX1_passOfLink_90 ?_
              obtain ⟨z23, bz23, ez23⟩ := Inv.ld (k := (Int.toNat z17)) hIL22 (iv_wl hka _) (by have := lt_w hka; omega)
              refine r_val ez23 ?_
              refine lv_iconst (v := zI 1) hx hb dX1_passOfLink_91 rfl ?_
              refine lv_iload hx hb dX1_passOfLink_92 (lv_at hl 1 rfl) ?_
              obtain ⟨z24, bz24, x0z24, ez24⟩ := shl_ex 1 v5_22
              refine lv_ishl hx hb dX1_passOfLink_94 ?_
              refine r_val ez24 ?_
              obtain ⟨z25, bz25, x0z25, ez25⟩ := or_ex z23 z24
              refine lv_ior hx hb dX1_passOfLink_95 ?_
              refine r_val ez25 ?_
              refine g_iast F w (a := (a + 2)) (kd_w2 hka) (j := (Int.toNat z17)) (ix_z (by omega) (by omega)) (by omega) dX1_passOfLink_96 (fun H locs w => ?_)
              obtain ⟨z26, bz26, x0z26, ez26⟩ := add_ex v4_22 1
              refine lv_iinc (v := zI z26) (lv' := [(4, .int (zI z26)), (7, .int (zI z17)), (6, .int (zI v5_22)), (5, .int (zI v5_22)), (3, .int (zI 0)), (0, .ref (B + 23)), (1, .ref (B + u1)), (2, .ref (B + a))]) hx hb dX1_passOfLink_97 hl (k := 3) rfl (by first | exact ez26 | (rw [← ez26]; rfl)) (by decide) rfl (fun ls hl => ?_)
              refine z_iinc (v := (v5_22 + 1)) (lv' := [(5, .int (zI (v5_22 + 1))), (4, .int (zI z26)), (7, .int (zI z17)), (6, .int (zI v5_22)), (3, .int (zI 0)), (0, .ref (B + 23)), (1, .ref (B + u1)), (2, .ref (B + a))]) hx hb dX1_passOfLink_100 hl (k := 3) rfl (by omega) (by decide) rfl (fun ls hl => ?_)
              refine lv_goto (tgt := 22) hx hb dX1_passOfLink_103 (by decide) ?_
              exact ih22 (v5_22 + 1) z26 (st NL22 (a + 2) (Int.toNat z17) (zI z25)) (by omega) (by omega)    (Inv.to hIL22 (a := (a + 2)) (k := (Int.toNat z17)) (x := z25) (iv_wl hka _) (by omega)) (Fr.to hFL22 (by first | omega | (dsimp only; first | done | omega))) (by omega) _ _ _ w (lv_sub hl [0, 1, 4, 5, 6, 7] rfl)
    exact lp22 _ 0 0 M (by omega) (by omega) hI hF (Nat.lt_succ_self _) _ _ _ w (lv_sub hl [0, 1, 2, 3, 4, 5] rfl)
  · refine lv_iconst (v := zI 1) hx hb dX1_passOfLink_10 rfl ?_
    refine lv_goto (tgt := 15) hx hb dX1_passOfLink_11 (by decide) ?_
    refine lv_istore_n (lv' := [(3, .int (zI 1)), (0, .ref (B + 23)), (1, .ref (B + u1)), (2, .ref (B + a))]) hx hb dX1_passOfLink_15 rfl hl (by decide) rfl (fun ls hl => ?_)
    refine lv_iconst (v := zI 0) hx hb dX1_passOfLink_16 rfl ?_
    refine lv_istore (lv' := [(4, .int (zI 0)), (3, .int (zI 1)), (0, .ref (B + 23)), (1, .ref (B + u1)), (2, .ref (B + a))]) hx hb dX1_passOfLink_17 hl (by decide) rfl (fun ls hl => ?_)
    refine lv_iconst (v := zI 0) hx hb dX1_passOfLink_19 rfl ?_
    refine lv_istore (lv' := [(5, .int (zI 0)), (4, .int (zI 0)), (3, .int (zI 1)), (0, .ref (B + 23)), (1, .ref (B + u1)), (2, .ref (B + a))]) hx hb dX1_passOfLink_20 hl (by decide) rfl (fun ls hl => ?_)
    have lp22 : ∀ (f : Nat) (v5_22 : Int) (v4_22 : Int)  (NL22 : Mem), (0 ≤ v5_22 ∧ v5_22 ≤ 12) → ((-2147483648) ≤ v4_22 ∧ v4_22 ≤ 2147483647) → Inv NL22 → Fr (fun b9 k9 => b9 = (a + 2)) NL22 M → (Int.toNat (12 - v5_22) < f) → ∀ (H : Heap) (locs : List Loc) (ls : Array Slot), Wd D B cy s s.heap NL22 H locs → lv_has ls 8 [(5, .int (zI v5_22)), (4, .int (zI v4_22)), (3, .int (zI 1)), (0, .ref (B + 23)), (1, .ref (B + u1)), (2, .ref (B + a))] → W p l e (rmm 3 73) s m args below meth c H locs 0 0 Q (F0 m 22 ls []) := by
      intro f
      induction f with
      | zero => intros; omega
      | succ f ih22 =>
        intro v5_22 v4_22  NL22 iv5_22 iv4_22 hIL22 hFL22 hf22 H locs ls w hl
        refine lv_iload hx hb dX1_passOfLink_22 (lv_at hl 0 rfl) ?_
        refine lv_aload_n hx hb dX1_passOfLink_24 rfl (lv_at hl 5 rfl) ?_
        refine f_9_1 F w (a := a) hka tb_69 dX1_passOfLink_25 ?_
        obtain ⟨z27, bz27, ez27⟩ := Inv.ld (k := 1) hIL22 (iv_w1 hka) (by have := lt_w hka; omega)
        refine r_val ez27 ?_
        refine z_icmp_ge (tgt := 106) hx hb (by omega) (by omega) dX1_passOfLink_28 (by decide) (fun c28 => ?_) (fun c28 => ?_)
        · refine lv_iload hx hb dX1_passOfLink_106 (lv_at hl 1 rfl) ?_
          rw [hQ]
          exact e_i F w hr hlocks ⟨_, rfl, (by omega), hIL22, hFL22⟩ dX1_passOfLink_108
        · refine lv_iload_n hx hb dX1_passOfLink_31 rfl (lv_at hl 2 rfl) ?_
          refine z_if_eq (tgt := 47) hx hb (by omega) dX1_passOfLink_32 (by decide) (fun c29 => False.elim (by omega)) (fun c29 => ?_)
          refine lv_aload_n hx hb dX1_passOfLink_35 rfl (lv_at hl 5 rfl) ?_
          refine f_9_1 F w (a := a) hka tb_69 dX1_passOfLink_36 ?_
          refine r_val (v := zI z27) (ez27) ?_
          refine lv_iconst (v := zI 1) hx hb dX1_passOfLink_39 rfl ?_
          refine z_isub (z := (z27 - 1)) hx hb dX1_passOfLink_40 (by omega) ?_
          refine lv_iload hx hb dX1_passOfLink_41 (lv_at hl 0 rfl) ?_
          refine z_isub (z := ((z27 - 1) - v5_22)) hx hb dX1_passOfLink_43 (by omega) ?_
          refine lv_goto (tgt := 49) hx hb dX1_passOfLink_44 (by decide) ?_
          refine lv_istore (lv' := [(6, .int (zI ((z27 - 1) - v5_22))), (5, .int (zI v5_22)), (4, .int (zI v4_22)), (3, .int (zI 1)), (0, .ref (B + 23)), (1, .ref (B + u1)), (2, .ref (B + a))]) hx hb dX1_passOfLink_49 hl (by decide) rfl (fun ls hl => ?_)
          refine lv_aload_n hx hb dX1_passOfLink_51 rfl (lv_at hl 6 rfl) ?_
          refine lv_iload hx hb dX1_passOfLink_52 (lv_at hl 0 rfl) ?_
          refine k_Vi F w (As := [.int (zI ((z27 - 1) - v5_22))]) (rest := []) (a := a) (kd_lt (a := a) hka (by decide)) (sh_9 hka _ _) rfl (q_X9_isBare (a := a) hka (y := ((z27 - 1) - v5_22)) (by omega)  hIL22) gv_X1_39 hv_X9_isBare ⟨(Nat.le_of_ble_eq_true rfl), (Nat.le_of_ble_eq_true rfl)⟩ hl.1 rfl (Nat.le_of_ble_eq_true rfl) ⟨Nat.zero_le _, Nat.zero_le _⟩ dX1_passOfLink_54 (fun r30 N31 H locs hp w => ?_)
          obtain ⟨z32, rfl, bz32, xz32, hMN31⟩ := hp
          rw [hMN31] at w
          refine z_if_eq (tgt := 71) hx hb (by omega) dX1_passOfLink_57 (by decide) (fun c33 => ?_) (fun c33 => ?_)
          · refine lv_iconst (v := zI (-1)) hx hb dX1_passOfLink_71 rfl ?_
            refine lv_istore (lv' := [(7, .int (zI (-1))), (6, .int (zI ((z27 - 1) - v5_22))), (5, .int (zI v5_22)), (4, .int (zI v4_22)), (3, .int (zI 1)), (0, .ref (B + 23)), (1, .ref (B + u1)), (2, .ref (B + a))]) hx hb dX1_passOfLink_72 hl (by decide) rfl (fun ls hl => ?_)
            refine lv_aload_n hx hb dX1_passOfLink_74 rfl (lv_at hl 7 rfl) ?_
            refine lv_iload hx hb dX1_passOfLink_75 (lv_at hl 0 rfl) ?_
            obtain ⟨z34, bz34, ez34⟩ := Inv.ld (k := 0) hIL22 (iv_w0 hka) (by have := lt_w hka; omega)
            refine k_Vi F w (As := [.int (zI (-1))]) (rest := []) (a := a) (kd_lt (a := a) hka (by decide)) (sh_9 hka _ _) rfl (q_X9_hasTone (a := a) hka (t := (-1)) (by omega) (nn := z34) (ez34) (by omega)  hIL22) gv_X1_47 hv_X9_hasTone ⟨(Nat.le_of_ble_eq_true rfl), (Nat.le_of_ble_eq_true rfl)⟩ hl.1 rfl (Nat.le_of_ble_eq_true rfl) ⟨Nat.zero_le _, Nat.zero_le _⟩ dX1_passOfLink_77 (fun r35 N36 H locs hp w => ?_)
            obtain ⟨z37, rfl, bz37, xz37, hMN36⟩ := hp
            rw [hMN36] at w
            refine z_if_eq (tgt := 100) hx hb (by omega) dX1_passOfLink_80 (by decide) (fun c38 => ?_) (fun c38 => False.elim (by omega))
            refine z_iinc (v := (v5_22 + 1)) (lv' := [(5, .int (zI (v5_22 + 1))), (7, .int (zI (-1))), (6, .int (zI ((z27 - 1) - v5_22))), (4, .int (zI v4_22)), (3, .int (zI 1)), (0, .ref (B + 23)), (1, .ref (B + u1)), (2, .ref (B + a))]) hx hb dX1_passOfLink_100 hl (k := 2) rfl (by omega) (by decide) rfl (fun ls hl => ?_)
            refine lv_goto (tgt := 22) hx hb dX1_passOfLink_103 (by decide) ?_
            exact ih22 (v5_22 + 1) v4_22 NL22 (by omega) (by omega)    hIL22 hFL22 (by omega) _ _ _ w (lv_sub hl [0, 3, 4, 5, 6, 7] rfl)
          · refine lv_aload_n hx hb dX1_passOfLink_60 rfl (lv_at hl 4 rfl) ?_
            refine lv_aload_n hx hb dX1_passOfLink_61 rfl (lv_at hl 6 rfl) ?_
            refine lv_iload hx hb dX1_passOfLink_62 (lv_at hl 0 rfl) ?_
            refine lv_iload_n hx hb dX1_passOfLink_64 rfl (lv_at hl 3 rfl) ?_
            refine k_Vi F w (As := [.ref (B + a), .int (zI ((z27 - 1) - v5_22)), .int (zI 1)]) (rest := []) (a := 23) (kd_lt (a := 23) (show kd 23 = (1, 0, 0) from rfl) (by decide)) (sh_1 rfl _ _) rfl (q_X1_floatingFor (a := a) hka (y := ((z27 - 1) - v5_22)) (by omega) (x := 1) (by omega)  hIL22) gv_X1_43 hv_X1_floatingFor ⟨(Nat.le_of_ble_eq_true rfl), (Nat.le_of_ble_eq_true rfl)⟩ hl.1 rfl (Nat.le_of_ble_eq_true rfl) ⟨Nat.zero_le _, Nat.zero_le _⟩ dX1_passOfLink_65 (fun r39 N40 H locs hp w => ?_)
            obtain ⟨z41, rfl, bz41, hMN40⟩ := hp
            rw [hMN40] at w
            refine lv_goto (tgt := 72) hx hb dX1_passOfLink_68 (by decide) ?_
            refine lv_istore (lv' := [(7, .int (zI z41)), (6, .int (zI ((z27 - 1) - v5_22))), (5, .int (zI v5_22)), (4, .int (zI v4_22)), (3, .int (zI 1)), (0, .ref (B + 23)), (1, .ref (B + u1)), (2, .ref (B + a))]) hx hb dX1_passOfLink_72 hl (by decide) rfl (fun ls hl => ?_)
            refine lv_aload_n hx hb dX1_passOfLink_74 rfl (lv_at hl 7 rfl) ?_
            refine lv_iload hx hb dX1_passOfLink_75 (lv_at hl 0 rfl) ?_
            obtain ⟨z42, bz42, ez42⟩ := Inv.ld (k := 0) hIL22 (iv_w0 hka) (by have := lt_w hka; omega)
            refine k_Vi F w (As := [.int (zI z41)]) (rest := []) (a := a) (kd_lt (a := a) hka (by decide)) (sh_9 hka _ _) rfl (q_X9_hasTone (a := a) hka (t := z41) (by omega) (nn := z42) (ez42) (by omega)  hIL22) gv_X1_47 hv_X9_hasTone ⟨(Nat.le_of_ble_eq_true rfl), (Nat.le_of_ble_eq_true rfl)⟩ hl.1 rfl (Nat.le_of_ble_eq_true rfl) ⟨Nat.zero_le _, Nat.zero_le _⟩ dX1_passOfLink_77 (fun r43 N44 H locs hp w => ?_)
            obtain ⟨z45, rfl, bz45, xz45, hMN44⟩ := hp
            rw [hMN44] at w
            refine z_if_eq (tgt := 100) hx hb (by omega) dX1_passOfLink_80 (by decide) (fun c46 => ?_) (fun c46 => ?_)
            · refine z_iinc (v := (v5_22 + 1)) (lv' := [(5, .int (zI (v5_22 + 1))), (7, .int (zI z41)), (6, .int (zI ((z27 - 1) - v5_22))), (4, .int (zI v4_22)), (3, .int (zI 1)), (0, .ref (B + 23)), (1, .ref (B + u1)), (2, .ref (B + a))]) hx hb dX1_passOfLink_100 hl (k := 2) rfl (by omega) (by decide) rfl (fun ls hl => ?_)
              refine lv_goto (tgt := 22) hx hb dX1_passOfLink_103 (by decide) ?_
              exact ih22 (v5_22 + 1) v4_22 NL22 (by omega) (by omega)    hIL22 hFL22 (by omega) _ _ _ w (lv_sub hl [0, 3, 4, 5, 6, 7] rfl)
            · refine lv_aload_n hx hb dX1_passOfLink_83 rfl (lv_at hl 7 rfl) ?_
              refine f_9_5 F w (a := a) hka tb_78 dX1_passOfLink_84 ?_
              refine lv_iload hx hb dX1_passOfLink_87 (lv_at hl 0 rfl) ?_
              refine lv_dup2_11 hx hb dX1_passOfLink_89 rfl rfl ?_
              refine g_iald F w (a := (a + 2)) (kd_w2 hka) (j := (Int.toNat z41)) (ix_z (by omega) (by omega)) (by omega) dX1_passOfLink_90 ?_
              obtain ⟨z47, bz47, ez47⟩ := Inv.ld (k := (Int.toNat z41)) hIL22 (iv_wl hka _) (by have := lt_w hka; omega)
              refine r_val ez47 ?_
              refine lv_iconst (v := zI 1) hx hb dX1_passOfLink_91 rfl ?_
              refine lv_iload hx hb dX1_passOfLink_92 (lv_at hl 1 rfl) ?_
              obtain ⟨z48, bz48, x0z48, ez48⟩ := shl_ex 1 ((z27 - 1) - v5_22)
              refine lv_ishl hx hb dX1_passOfLink_94 ?_
              refine r_val ez48 ?_
              obtain ⟨z49, bz49, x0z49, ez49⟩ := or_ex z47 z48
              refine lv_ior hx hb dX1_passOfLink_95 ?_
              refine r_val ez49 ?_
              refine g_iast F w (a := (a + 2)) (kd_w2 hka) (j := (Int.toNat z41)) (ix_z (by omega) (by omega)) (by omega) dX1_passOfLink_96 (fun H locs w => ?_)
              obtain ⟨z50, bz50, x0z50, ez50⟩ := add_ex v4_22 1
              refine lv_iinc (v := zI z50) (lv' := [(4, .int (zI z50)), (7, .int (zI z41)), (6, .int (zI ((z27 - 1) - v5_22))), (5, .int (zI v5_22)), (3, .int (zI 1)), (0, .ref (B + 23)), (1, .ref (B + u1)), (2, .ref (B + a))]) hx hb dX1_passOfLink_97 hl (k := 3) rfl (by first | exact ez50 | (rw [← ez50]; rfl)) (by decide) rfl (fun ls hl => ?_)
              refine z_iinc (v := (v5_22 + 1)) (lv' := [(5, .int (zI (v5_22 + 1))), (4, .int (zI z50)), (7, .int (zI z41)), (6, .int (zI ((z27 - 1) - v5_22))), (3, .int (zI 1)), (0, .ref (B + 23)), (1, .ref (B + u1)), (2, .ref (B + a))]) hx hb dX1_passOfLink_100 hl (k := 3) rfl (by omega) (by decide) rfl (fun ls hl => ?_)
              refine lv_goto (tgt := 22) hx hb dX1_passOfLink_103 (by decide) ?_
              exact ih22 (v5_22 + 1) z50 (st NL22 (a + 2) (Int.toNat z41) (zI z49)) (by omega) (by omega)    (Inv.to hIL22 (a := (a + 2)) (k := (Int.toNat z41)) (x := z49) (iv_wl hka _) (by omega)) (Fr.to hFL22 (by first | omega | (dsimp only; first | done | omega))) (by omega) _ _ _ w (lv_sub hl [0, 1, 4, 5, 6, 7] rfl)
    exact lp22 _ 0 0 M (by omega) (by omega) hI hF (Nat.lt_succ_self _) _ _ _ w (lv_sub hl [0, 1, 2, 3, 4, 5] rfl)
theorem dX1_passOfFlat_0 : decode cX1_passOfFlat 0 = .ok (.aload_n 1, 1) := wdX1_passOfFlat_0
theorem dX1_passOfFlat_1 : decode cX1_passOfFlat 1 = .ok (.getfield 15, 3) := wdX1_passOfFlat_1
theorem dX1_passOfFlat_4 : decode cX1_passOfFlat 4 = .ok (.iconst 4, 1) := wdX1_passOfFlat_4
theorem dX1_passOfFlat_5 : decode cX1_passOfFlat 5 = .ok (.iaload, 1) := wdX1_passOfFlat_5
theorem dX1_passOfFlat_6 : decode cX1_passOfFlat 6 = .ok (.iconst 1, 1) := wdX1_passOfFlat_6
theorem dX1_passOfFlat_7 : decode cX1_passOfFlat 7 = .ok (.if_icmp .ne 7, 3) := wdX1_passOfFlat_7
theorem dX1_passOfFlat_14 : decode cX1_passOfFlat 14 = .ok (.iconst 0, 1) := wdX1_passOfFlat_14
theorem dX1_passOfFlat_15 : decode cX1_passOfFlat 15 = .ok (.istore_n 3, 1) := wdX1_passOfFlat_15
theorem dX1_passOfFlat_16 : decode cX1_passOfFlat 16 = .ok (.iconst 0, 1) := wdX1_passOfFlat_16
theorem dX1_passOfFlat_17 : decode cX1_passOfFlat 17 = .ok (.istore 4, 2) := wdX1_passOfFlat_17
theorem dX1_passOfFlat_19 : decode cX1_passOfFlat 19 = .ok (.iconst 0, 1) := wdX1_passOfFlat_19
theorem dX1_passOfFlat_20 : decode cX1_passOfFlat 20 = .ok (.istore 5, 2) := wdX1_passOfFlat_20
theorem dX1_passOfFlat_22 : decode cX1_passOfFlat 22 = .ok (.iload 5, 2) := wdX1_passOfFlat_22
theorem dX1_passOfFlat_24 : decode cX1_passOfFlat 24 = .ok (.aload_n 2, 1) := wdX1_passOfFlat_24
theorem dX1_passOfFlat_25 : decode cX1_passOfFlat 25 = .ok (.getfield 34, 3) := wdX1_passOfFlat_25
theorem dX1_passOfFlat_28 : decode cX1_passOfFlat 28 = .ok (.if_icmp .ge 105, 3) := wdX1_passOfFlat_28
theorem dX1_passOfFlat_133 : decode cX1_passOfFlat 133 = .ok (.iload 4, 2) := wdX1_passOfFlat_133
theorem dX1_passOfFlat_135 : decode cX1_passOfFlat 135 = .ok (.ireturn, 1) := wdX1_passOfFlat_135
theorem dX1_passOfFlat_31 : decode cX1_passOfFlat 31 = .ok (.aload_n 2, 1) := wdX1_passOfFlat_31
theorem dX1_passOfFlat_32 : decode cX1_passOfFlat 32 = .ok (.iload 5, 2) := wdX1_passOfFlat_32
theorem dX1_passOfFlat_34 : decode cX1_passOfFlat 34 = .ok (.invokevirtual 64, 3) := wdX1_passOfFlat_34
theorem tb_123 : Cond.methodLink "ToneLines$Doer" 64 yX9_tonesOf ∈ TB := wtb_42
theorem gv_X1_64 : GoodIn TB (wsV RX1 64 RX9 yX9_tonesOf (cw yX9_tonesOf cX9_tonesOf 4 (some .int))) := goodIn_4 tb_123 tb_102 tb_103 tb_5 gc_X9_tonesOf
theorem dX1_passOfFlat_37 : decode cX1_passOfFlat 37 = .ok (.istore 6, 2) := wdX1_passOfFlat_37
theorem dX1_passOfFlat_39 : decode cX1_passOfFlat 39 = .ok (.iload 6, 2) := wdX1_passOfFlat_39
theorem dX1_passOfFlat_41 : decode cX1_passOfFlat 41 = .ok (.invokestatic 67, 3) := wdX1_passOfFlat_41
theorem tb_124 : Cond.methodLink "ToneLines$Doer" 67 yJ6_bitCount_0f7a4 ∈ TB := wtb_31
theorem gs_X1_67 : GoodIn TB (va_wsS RX1 67 yJ6_bitCount_0f7a4 (cw yJ6_bitCount_0f7a4 cJ6_bitCount_0f7a4 1 (some .int))) := goodIn_3 tb_124 tb_23 tb_24 gc_J6_bitCount_0f7a4
theorem dX1_passOfFlat_44 : decode cX1_passOfFlat 44 = .ok (.aload_n 1, 1) := wdX1_passOfFlat_44
theorem dX1_passOfFlat_45 : decode cX1_passOfFlat 45 = .ok (.getfield 15, 3) := wdX1_passOfFlat_45
theorem dX1_passOfFlat_48 : decode cX1_passOfFlat 48 = .ok (.iconst 3, 1) := wdX1_passOfFlat_48
theorem dX1_passOfFlat_49 : decode cX1_passOfFlat 49 = .ok (.iaload, 1) := wdX1_passOfFlat_49
theorem dX1_passOfFlat_50 : decode cX1_passOfFlat 50 = .ok (.isub, 1) := wdX1_passOfFlat_50
theorem dX1_passOfFlat_51 : decode cX1_passOfFlat 51 = .ok (.istore 7, 2) := wdX1_passOfFlat_51
theorem dX1_passOfFlat_53 : decode cX1_passOfFlat 53 = .ok (.iconst 0, 1) := wdX1_passOfFlat_53
theorem dX1_passOfFlat_54 : decode cX1_passOfFlat 54 = .ok (.istore 8, 2) := wdX1_passOfFlat_54
theorem dX1_passOfFlat_56 : decode cX1_passOfFlat 56 = .ok (.iload 8, 2) := wdX1_passOfFlat_56
theorem dX1_passOfFlat_58 : decode cX1_passOfFlat 58 = .ok (.iload 7, 2) := wdX1_passOfFlat_58
theorem dX1_passOfFlat_60 : decode cX1_passOfFlat 60 = .ok (.if_icmp .ge 67, 3) := wdX1_passOfFlat_60
theorem dX1_passOfFlat_127 : decode cX1_passOfFlat 127 = .ok (.iinc 5 1, 3) := wdX1_passOfFlat_127
theorem dX1_passOfFlat_130 : decode cX1_passOfFlat 130 = .ok (.goto (-108), 3) := wdX1_passOfFlat_130
theorem dX1_passOfFlat_63 : decode cX1_passOfFlat 63 = .ok (.iload_n 3, 1) := wdX1_passOfFlat_63
theorem dX1_passOfFlat_64 : decode cX1_passOfFlat 64 = .ok (.ifCond .eq 11, 3) := wdX1_passOfFlat_64
theorem dX1_passOfFlat_75 : decode cX1_passOfFlat 75 = .ok (.iload 6, 2) := wdX1_passOfFlat_75
theorem dX1_passOfFlat_77 : decode cX1_passOfFlat 77 = .ok (.invokestatic 75, 3) := wdX1_passOfFlat_77
theorem dX1_passOfFlat_80 : decode cX1_passOfFlat 80 = .ok (.istore 9, 2) := wdX1_passOfFlat_80
theorem dX1_passOfFlat_82 : decode cX1_passOfFlat 82 = .ok (.aload_n 2, 1) := wdX1_passOfFlat_82
theorem dX1_passOfFlat_83 : decode cX1_passOfFlat 83 = .ok (.iload 9, 2) := wdX1_passOfFlat_83
theorem dX1_passOfFlat_85 : decode cX1_passOfFlat 85 = .ok (.invokevirtual 47, 3) := wdX1_passOfFlat_85
theorem dX1_passOfFlat_88 : decode cX1_passOfFlat 88 = .ok (.ifCond .eq 33, 3) := wdX1_passOfFlat_88
theorem dX1_passOfFlat_121 : decode cX1_passOfFlat 121 = .ok (.iinc 8 1, 3) := wdX1_passOfFlat_121
theorem dX1_passOfFlat_124 : decode cX1_passOfFlat 124 = .ok (.goto (-68), 3) := wdX1_passOfFlat_124
theorem dX1_passOfFlat_91 : decode cX1_passOfFlat 91 = .ok (.aload_n 2, 1) := wdX1_passOfFlat_91
theorem dX1_passOfFlat_92 : decode cX1_passOfFlat 92 = .ok (.getfield 50, 3) := wdX1_passOfFlat_92
theorem dX1_passOfFlat_95 : decode cX1_passOfFlat 95 = .ok (.iload 9, 2) := wdX1_passOfFlat_95
theorem dX1_passOfFlat_97 : decode cX1_passOfFlat 97 = .ok (.dup2, 1) := wdX1_passOfFlat_97
theorem dX1_passOfFlat_98 : decode cX1_passOfFlat 98 = .ok (.iaload, 1) := wdX1_passOfFlat_98
theorem dX1_passOfFlat_99 : decode cX1_passOfFlat 99 = .ok (.iconst 1, 1) := wdX1_passOfFlat_99
theorem dX1_passOfFlat_100 : decode cX1_passOfFlat 100 = .ok (.iload 5, 2) := wdX1_passOfFlat_100
theorem dX1_passOfFlat_102 : decode cX1_passOfFlat 102 = .ok (.ishl, 1) := wdX1_passOfFlat_102
theorem dX1_passOfFlat_103 : decode cX1_passOfFlat 103 = .ok (.iconst (-1), 1) := wdX1_passOfFlat_103
theorem dX1_passOfFlat_104 : decode cX1_passOfFlat 104 = .ok (.ixor, 1) := wdX1_passOfFlat_104
theorem dX1_passOfFlat_105 : decode cX1_passOfFlat 105 = .ok (.iand, 1) := wdX1_passOfFlat_105
theorem dX1_passOfFlat_106 : decode cX1_passOfFlat 106 = .ok (.iastore, 1) := wdX1_passOfFlat_106
theorem dX1_passOfFlat_107 : decode cX1_passOfFlat 107 = .ok (.iload 6, 2) := wdX1_passOfFlat_107
theorem dX1_passOfFlat_109 : decode cX1_passOfFlat 109 = .ok (.iconst 1, 1) := wdX1_passOfFlat_109
theorem dX1_passOfFlat_110 : decode cX1_passOfFlat 110 = .ok (.iload 9, 2) := wdX1_passOfFlat_110
theorem dX1_passOfFlat_112 : decode cX1_passOfFlat 112 = .ok (.ishl, 1) := wdX1_passOfFlat_112
theorem dX1_passOfFlat_113 : decode cX1_passOfFlat 113 = .ok (.iconst (-1), 1) := wdX1_passOfFlat_113
theorem dX1_passOfFlat_114 : decode cX1_passOfFlat 114 = .ok (.ixor, 1) := wdX1_passOfFlat_114
theorem dX1_passOfFlat_115 : decode cX1_passOfFlat 115 = .ok (.iand, 1) := wdX1_passOfFlat_115
theorem dX1_passOfFlat_116 : decode cX1_passOfFlat 116 = .ok (.istore 6, 2) := wdX1_passOfFlat_116
theorem dX1_passOfFlat_118 : decode cX1_passOfFlat 118 = .ok (.iinc 4 1, 3) := wdX1_passOfFlat_118
theorem dX1_passOfFlat_10 : decode cX1_passOfFlat 10 = .ok (.iconst 1, 1) := wdX1_passOfFlat_10
theorem dX1_passOfFlat_11 : decode cX1_passOfFlat 11 = .ok (.goto 4, 3) := wdX1_passOfFlat_11
theorem dX1_passOfFlat_67 : decode cX1_passOfFlat 67 = .ok (.iload 6, 2) := wdX1_passOfFlat_67
theorem dX1_passOfFlat_69 : decode cX1_passOfFlat 69 = .ok (.invokestatic 72, 3) := wdX1_passOfFlat_69
theorem dX1_passOfFlat_72 : decode cX1_passOfFlat 72 = .ok (.goto 8, 3) := wdX1_passOfFlat_72
set_option maxRecDepth 4000 in
theorem q_X1_passOfFlat {l : Launch} {D : va_G} {B : Nat} {cy : Nat → ClassId} {M : Mem} {u1 : Nat} (hku1 : kd u1 = (4, 0, 0)) {a : Nat} (hka : kd a = (9, 0, 0)) (hI : Inv M) : Ci l D B cy yX1_passOfFlat cX1_passOfFlat 10 (some .int) 2 40 [.ref (B + 23), .ref (B + u1), .ref (B + a)] M (fun r M1 => ∃ z : Int, r = zI z ∧ ((-2147483648) ≤ z ∧ z ≤ 2147483647) ∧ Inv M1 ∧ Fr (fun b9 k9 => b9 = (a + 2)) M1 M) := by
  refine s_anyQ (by decide) (Nat.le_of_ble_eq_true rfl) ?_
  intro p e s m args below meth c ls Q F hr hlocks hQ w hl
  have F : CallFix p m c cX1_passOfFlat 10 s args TB RX1 := F
  have hx := F.1
  have hb := F.2.1
  have hl : lv_has ls 10 [(0, .ref (B + 23)), (1, .ref (B + u1)), (2, .ref (B + a))] := hl
  have hF : Fr (fun b9 k9 => b9 = (a + 2)) M M := Fr.rf
  refine lv_aload_n hx hb dX1_passOfFlat_0 rfl (lv_at hl 1 rfl) ?_
  refine f_4_0 F w (a := u1) hku1 tb_79 dX1_passOfFlat_1 ?_
  refine lv_iconst (v := zI 4) hx hb dX1_passOfFlat_4 rfl ?_
  refine g_iald F w (a := (u1 + 1)) (iv_u hku1).2.2 (j := 4) ⟨by decide, by decide⟩ (by omega) dX1_passOfFlat_5 ?_
  obtain ⟨z1, bz1, ez1⟩ := Inv.ld (k := 4) hI (iv_up hku1 _) (by have := lt_u hku1; omega)
  refine r_val ez1 ?_
  refine lv_iconst (v := zI 1) hx hb dX1_passOfFlat_6 rfl ?_
  refine z_icmp_ne (tgt := 14) hx hb (by omega) (by omega) dX1_passOfFlat_7 (by decide) (fun c2 => ?_) (fun c2 => ?_)
  · refine lv_iconst (v := zI 0) hx hb dX1_passOfFlat_14 rfl ?_
    refine lv_istore_n (lv' := [(3, .int (zI 0)), (0, .ref (B + 23)), (1, .ref (B + u1)), (2, .ref (B + a))]) hx hb dX1_passOfFlat_15 rfl hl (by decide) rfl (fun ls hl => ?_)
    refine lv_iconst (v := zI 0) hx hb dX1_passOfFlat_16 rfl ?_
    refine lv_istore (lv' := [(4, .int (zI 0)), (3, .int (zI 0)), (0, .ref (B + 23)), (1, .ref (B + u1)), (2, .ref (B + a))]) hx hb dX1_passOfFlat_17 hl (by decide) rfl (fun ls hl => ?_)
    refine lv_iconst (v := zI 0) hx hb dX1_passOfFlat_19 rfl ?_
    refine lv_istore (lv' := [(5, .int (zI 0)), (4, .int (zI 0)), (3, .int (zI 0)), (0, .ref (B + 23)), (1, .ref (B + u1)), (2, .ref (B + a))]) hx hb dX1_passOfFlat_20 hl (by decide) rfl (fun ls hl => ?_)
    have lp22 : ∀ (f : Nat) (v5_22 : Int) (v4_22 : Int)  (NL22 : Mem), (0 ≤ v5_22 ∧ v5_22 ≤ 12) → ((-2147483648) ≤ v4_22 ∧ v4_22 ≤ 2147483647) → Inv NL22 → Fr (fun b9 k9 => b9 = (a + 2)) NL22 M → (Int.toNat (12 - v5_22) < f) → ∀ (H : Heap) (locs : List Loc) (ls : Array Slot), Wd D B cy s s.heap NL22 H locs → lv_has ls 10 [(5, .int (zI v5_22)), (4, .int (zI v4_22)), (3, .int (zI 0)), (0, .ref (B + 23)), (1, .ref (B + u1)), (2, .ref (B + a))] → W p l e (rmm 2 40) s m args below meth c H locs 0 0 Q (F0 m 22 ls []) := by
      intro f
      induction f with
      | zero => intros; omega
      | succ f ih22 =>
        intro v5_22 v4_22  NL22 iv5_22 iv4_22 hIL22 hFL22 hf22 H locs ls w hl
        refine lv_iload hx hb dX1_passOfFlat_22 (lv_at hl 0 rfl) ?_
        refine lv_aload_n hx hb dX1_passOfFlat_24 rfl (lv_at hl 5 rfl) ?_
        refine f_9_1 F w (a := a) hka tb_69 dX1_passOfFlat_25 ?_
        obtain ⟨z3, bz3, ez3⟩ := Inv.ld (k := 1) hIL22 (iv_w1 hka) (by have := lt_w hka; omega)
        refine r_val ez3 ?_
        refine z_icmp_ge (tgt := 133) hx hb (by omega) (by omega) dX1_passOfFlat_28 (by decide) (fun c4 => ?_) (fun c4 => ?_)
        · refine lv_iload hx hb dX1_passOfFlat_133 (lv_at hl 1 rfl) ?_
          rw [hQ]
          exact e_i F w hr hlocks ⟨_, rfl, (by omega), hIL22, hFL22⟩ dX1_passOfFlat_135
        · refine lv_aload_n hx hb dX1_passOfFlat_31 rfl (lv_at hl 5 rfl) ?_
          refine lv_iload hx hb dX1_passOfFlat_32 (lv_at hl 0 rfl) ?_
          refine k_Vi F w (As := [.int (zI v5_22)]) (rest := []) (a := a) (kd_lt (a := a) hka (by decide)) (sh_9 hka _ _) rfl (q_X9_tonesOf (a := a) hka (y := v5_22) (by omega)  hIL22) gv_X1_64 hv_X9_tonesOf ⟨(Nat.le_of_ble_eq_true rfl), (Nat.le_of_ble_eq_true rfl)⟩ hl.1 rfl (Nat.le_of_ble_eq_true rfl) ⟨Nat.zero_le _, Nat.zero_le _⟩ dX1_passOfFlat_34 (fun r5 N6 H locs hp w => ?_)
          obtain ⟨z7, rfl, bz7, hMN6⟩ := hp
          rw [hMN6] at w
          refine lv_istore (lv' := [(6, .int (zI z7)), (5, .int (zI v5_22)), (4, .int (zI v4_22)), (3, .int (zI 0)), (0, .ref (B + 23)), (1, .ref (B + u1)), (2, .ref (B + a))]) hx hb dX1_passOfFlat_37 hl (by decide) rfl (fun ls hl => ?_)
          refine lv_iload hx hb dX1_passOfFlat_39 (lv_at hl 0 rfl) ?_
          refine k_Si F w (As := [.int (zI z7)]) (rest := []) (q_bitCount (x := z7) (by omega) ) gs_X1_67 hs_J6_bitCount_0f7a4 ⟨(Nat.le_of_ble_eq_true rfl), (Nat.le_of_ble_eq_true rfl)⟩ hl.1 rfl (Nat.le_of_ble_eq_true rfl) ⟨Nat.zero_le _, Nat.zero_le _⟩ dX1_passOfFlat_41 (fun r8 N9 H locs hp w => ?_)
          obtain ⟨hrz10, hMz10⟩ := hp
          rw [hMz10] at w
          obtain ⟨z10, bz10, ez10⟩ := pop_ex z7 (by omega)
          refine r_val (hrz10.trans ez10) ?_
          refine lv_aload_n hx hb dX1_passOfFlat_44 rfl (lv_at hl 5 rfl) ?_
          refine f_4_0 F w (a := u1) hku1 tb_79 dX1_passOfFlat_45 ?_
          refine lv_iconst (v := zI 3) hx hb dX1_passOfFlat_48 rfl ?_
          refine g_iald F w (a := (u1 + 1)) (iv_u hku1).2.2 (j := 3) ⟨by decide, by decide⟩ (by omega) dX1_passOfFlat_49 ?_
          obtain ⟨z11, bz11, ez11⟩ := Inv.ld (k := 3) hIL22 (iv_up hku1 _) (by have := lt_u hku1; omega)
          refine r_val ez11 ?_
          refine z_isub (z := (z10 - z11)) hx hb dX1_passOfFlat_50 (by omega) ?_
          refine lv_istore (lv' := [(7, .int (zI (z10 - z11))), (6, .int (zI z7)), (5, .int (zI v5_22)), (4, .int (zI v4_22)), (3, .int (zI 0)), (0, .ref (B + 23)), (1, .ref (B + u1)), (2, .ref (B + a))]) hx hb dX1_passOfFlat_51 hl (by decide) rfl (fun ls hl => ?_)
          refine lv_iconst (v := zI 0) hx hb dX1_passOfFlat_53 rfl ?_
          refine lv_istore (lv' := [(8, .int (zI 0)), (7, .int (zI (z10 - z11))), (6, .int (zI z7)), (5, .int (zI v5_22)), (4, .int (zI v4_22)), (3, .int (zI 0)), (0, .ref (B + 23)), (1, .ref (B + u1)), (2, .ref (B + a))]) hx hb dX1_passOfFlat_54 hl (by decide) rfl (fun ls hl => ?_)
          have lp56 : ∀ (f : Nat) (v8_56 : Int) (v6_56 : Int) (v4_56 : Int)  (NL56 : Mem), (0 ≤ v8_56 ∧ v8_56 ≤ 20) → (0 ≤ v6_56 ∧ v6_56 ≤ 4095) → ((-2147483648) ≤ v4_56 ∧ v4_56 ≤ 2147483647) → NL56.1 a 1 = zI z3 → Inv NL56 → Fr (fun b9 k9 => b9 = (a + 2)) NL56 M → (Int.toNat (14 - v8_56) < f) → ∀ (H : Heap) (locs : List Loc) (ls : Array Slot), Wd D B cy s s.heap NL56 H locs → lv_has ls 10 [(8, .int (zI v8_56)), (7, .int (zI (z10 - z11))), (6, .int (zI v6_56)), (5, .int (zI v5_22)), (4, .int (zI v4_56)), (3, .int (zI 0)), (0, .ref (B + 23)), (1, .ref (B + u1)), (2, .ref (B + a))] → W p l e (rmm 2 40) s m args below meth c H locs 0 0 Q (F0 m 56 ls []) := by
            intro f
            induction f with
            | zero => intros; omega
            | succ f ih56 =>
              intro v8_56 v6_56 v4_56  NL56 iv8_56 iv6_56 iv4_56 ega_1_56 hIL56 hFL56 hf56 H locs ls w hl
              refine lv_iload hx hb dX1_passOfFlat_56 (lv_at hl 0 rfl) ?_
              refine lv_iload hx hb dX1_passOfFlat_58 (lv_at hl 1 rfl) ?_
              refine z_icmp_ge (tgt := 127) hx hb (by omega) (by omega) dX1_passOfFlat_60 (by decide) (fun c12 => ?_) (fun c12 => ?_)
              · refine z_iinc (v := (v5_22 + 1)) (lv' := [(5, .int (zI (v5_22 + 1))), (8, .int (zI v8_56)), (7, .int (zI (z10 - z11))), (6, .int (zI v6_56)), (4, .int (zI v4_56)), (3, .int (zI 0)), (0, .ref (B + 23)), (1, .ref (B + u1)), (2, .ref (B + a))]) hx hb dX1_passOfFlat_127 hl (k := 3) rfl (by omega) (by decide) rfl (fun ls hl => ?_)
                refine lv_goto (tgt := 22) hx hb dX1_passOfFlat_130 (by decide) ?_
                exact ih22 (v5_22 + 1) v4_56 NL56 (by omega) (by omega)    hIL56 hFL56 (by omega) _ _ _ w (lv_sub hl [0, 4, 5, 6, 7, 8] rfl)
              · refine lv_iload_n hx hb dX1_passOfFlat_63 rfl (lv_at hl 5 rfl) ?_
                refine z_if_eq (tgt := 75) hx hb (by omega) dX1_passOfFlat_64 (by decide) (fun c13 => ?_) (fun c13 => False.elim (by omega))
                refine lv_iload hx hb dX1_passOfFlat_75 (lv_at hl 2 rfl) ?_
                refine k_Ni F w (As := [.int (zI v6_56)]) (rest := []) (q_lowest (x := v6_56) (by omega) ) gc_X11_lowest tb_95 tb_96 (by decide) hs_X11_lowest ⟨(Nat.le_of_ble_eq_true rfl), (Nat.le_of_ble_eq_true rfl)⟩ hl.1 rfl (Nat.le_of_ble_eq_true rfl) ⟨Nat.zero_le _, Nat.zero_le _⟩ dX1_passOfFlat_77 (fun r14 N15 H locs hp w => ?_)
                obtain ⟨hrz16, hMz16⟩ := hp
                rw [hMz16] at w
                obtain ⟨z16, bz16, xz16, ez16⟩ := low_ex v6_56 (by omega)
                refine r_val (hrz16.trans ez16) ?_
                refine lv_istore (lv' := [(9, .int (zI z16)), (8, .int (zI v8_56)), (7, .int (zI (z10 - z11))), (6, .int (zI v6_56)), (5, .int (zI v5_22)), (4, .int (zI v4_56)), (3, .int (zI 0)), (0, .ref (B + 23)), (1, .ref (B + u1)), (2, .ref (B + a))]) hx hb dX1_passOfFlat_80 hl (by decide) rfl (fun ls hl => ?_)
                refine lv_aload_n hx hb dX1_passOfFlat_82 rfl (lv_at hl 9 rfl) ?_
                refine lv_iload hx hb dX1_passOfFlat_83 (lv_at hl 0 rfl) ?_
                obtain ⟨z17, bz17, ez17⟩ := Inv.ld (k := 0) hIL56 (iv_w0 hka) (by have := lt_w hka; omega)
                refine k_Vi F w (As := [.int (zI z16)]) (rest := []) (a := a) (kd_lt (a := a) hka (by decide)) (sh_9 hka _ _) rfl (q_X9_hasTone (a := a) hka (t := z16) (by omega) (nn := z17) (ez17) (by omega)  hIL56) gv_X1_47 hv_X9_hasTone ⟨(Nat.le_of_ble_eq_true rfl), (Nat.le_of_ble_eq_true rfl)⟩ hl.1 rfl (Nat.le_of_ble_eq_true rfl) ⟨Nat.zero_le _, Nat.zero_le _⟩ dX1_passOfFlat_85 (fun r18 N19 H locs hp w => ?_)
                obtain ⟨z20, rfl, bz20, xz20, hMN19⟩ := hp
                rw [hMN19] at w
                refine z_if_eq (tgt := 121) hx hb (by omega) dX1_passOfFlat_88 (by decide) (fun c21 => ?_) (fun c21 => ?_)
                · refine z_iinc (v := (v8_56 + 1)) (lv' := [(8, .int (zI (v8_56 + 1))), (9, .int (zI z16)), (7, .int (zI (z10 - z11))), (6, .int (zI v6_56)), (5, .int (zI v5_22)), (4, .int (zI v4_56)), (3, .int (zI 0)), (0, .ref (B + 23)), (1, .ref (B + u1)), (2, .ref (B + a))]) hx hb dX1_passOfFlat_121 hl (k := 1) rfl (by omega) (by decide) rfl (fun ls hl => ?_)
                  refine lv_goto (tgt := 56) hx hb dX1_passOfFlat_124 (by decide) ?_
                  exact ih56 (v8_56 + 1) v6_56 v4_56 NL56 (by omega) (by omega) (by omega)  (ega_1_56)  hIL56 hFL56 (by omega) _ _ _ w (lv_sub hl [0, 2, 3, 4, 5, 6, 7, 8, 9] rfl)
                · refine lv_aload_n hx hb dX1_passOfFlat_91 rfl (lv_at hl 9 rfl) ?_
                  refine f_9_5 F w (a := a) hka tb_78 dX1_passOfFlat_92 ?_
                  refine lv_iload hx hb dX1_passOfFlat_95 (lv_at hl 0 rfl) ?_
                  refine lv_dup2_11 hx hb dX1_passOfFlat_97 rfl rfl ?_
                  refine g_iald F w (a := (a + 2)) (kd_w2 hka) (j := (Int.toNat z16)) (ix_z (by omega) (by omega)) (by omega) dX1_passOfFlat_98 ?_
                  obtain ⟨z22, bz22, ez22⟩ := Inv.ld (k := (Int.toNat z16)) hIL56 (iv_wl hka _) (by have := lt_w hka; omega)
                  refine r_val ez22 ?_
                  refine lv_iconst (v := zI 1) hx hb dX1_passOfFlat_99 rfl ?_
                  refine lv_iload hx hb dX1_passOfFlat_100 (lv_at hl 4 rfl) ?_
                  obtain ⟨z23, bz23, x0z23, ez23⟩ := shl_ex 1 v5_22
                  refine lv_ishl hx hb dX1_passOfFlat_102 ?_
                  refine r_val ez23 ?_
                  refine lv_iconst (v := zI (-1)) hx hb dX1_passOfFlat_103 rfl ?_
                  refine lv_ixor hx hb dX1_passOfFlat_104 ?_
                  refine r_val (not_ex z23) ?_
                  obtain ⟨z24, bz24, x0z24, x1z24, ez24⟩ := and_ex z22 (-z23 - 1) (by omega) (by omega)
                  refine lv_iand hx hb dX1_passOfFlat_105 ?_
                  refine r_val ez24 ?_
                  refine g_iast F w (a := (a + 2)) (kd_w2 hka) (j := (Int.toNat z16)) (ix_z (by omega) (by omega)) (by omega) dX1_passOfFlat_106 (fun H locs w => ?_)
                  refine lv_iload hx hb dX1_passOfFlat_107 (lv_at hl 3 rfl) ?_
                  refine lv_iconst (v := zI 1) hx hb dX1_passOfFlat_109 rfl ?_
                  refine lv_iload hx hb dX1_passOfFlat_110 (lv_at hl 0 rfl) ?_
                  obtain ⟨z25, bz25, x0z25, ez25⟩ := shl_ex 1 z16
                  refine lv_ishl hx hb dX1_passOfFlat_112 ?_
                  refine r_val ez25 ?_
                  refine lv_iconst (v := zI (-1)) hx hb dX1_passOfFlat_113 rfl ?_
                  refine lv_ixor hx hb dX1_passOfFlat_114 ?_
                  refine r_val (not_ex z25) ?_
                  obtain ⟨z26, bz26, x0z26, x1z26, ez26⟩ := and_ex v6_56 (-z25 - 1) (by omega) (by omega)
                  refine lv_iand hx hb dX1_passOfFlat_115 ?_
                  refine r_val ez26 ?_
                  refine lv_istore (lv' := [(6, .int (zI z26)), (9, .int (zI z16)), (8, .int (zI v8_56)), (7, .int (zI (z10 - z11))), (5, .int (zI v5_22)), (4, .int (zI v4_56)), (3, .int (zI 0)), (0, .ref (B + 23)), (1, .ref (B + u1)), (2, .ref (B + a))]) hx hb dX1_passOfFlat_116 hl (by decide) rfl (fun ls hl => ?_)
                  obtain ⟨z27, bz27, x0z27, ez27⟩ := add_ex v4_56 1
                  refine lv_iinc (v := zI z27) (lv' := [(4, .int (zI z27)), (6, .int (zI z26)), (9, .int (zI z16)), (8, .int (zI v8_56)), (7, .int (zI (z10 - z11))), (5, .int (zI v5_22)), (3, .int (zI 0)), (0, .ref (B + 23)), (1, .ref (B + u1)), (2, .ref (B + a))]) hx hb dX1_passOfFlat_118 hl (k := 5) rfl (by first | exact ez27 | (rw [← ez27]; rfl)) (by decide) rfl (fun ls hl => ?_)
                  refine z_iinc (v := (v8_56 + 1)) (lv' := [(8, .int (zI (v8_56 + 1))), (4, .int (zI z27)), (6, .int (zI z26)), (9, .int (zI z16)), (7, .int (zI (z10 - z11))), (5, .int (zI v5_22)), (3, .int (zI 0)), (0, .ref (B + 23)), (1, .ref (B + u1)), (2, .ref (B + a))]) hx hb dX1_passOfFlat_121 hl (k := 3) rfl (by omega) (by decide) rfl (fun ls hl => ?_)
                  refine lv_goto (tgt := 56) hx hb dX1_passOfFlat_124 (by decide) ?_
                  exact ih56 (v8_56 + 1) z26 z27 (st NL56 (a + 2) (Int.toNat z16) (zI z24)) (by omega) (by omega) (by omega)  ((st_ne (Or.inl (by omega))).trans ega_1_56)  (Inv.to hIL56 (a := (a + 2)) (k := (Int.toNat z16)) (x := z24) (iv_wl hka _) (by omega)) (Fr.to hFL56 (by first | omega | (dsimp only; first | done | omega))) (by omega) _ _ _ w (lv_sub hl [0, 4, 2, 5, 1, 6, 7, 8, 9] rfl)
          exact lp56 _ 0 z7 v4_22 NL22 (by omega) (by omega) (by omega) (ez3) hIL22 hFL22 (Nat.lt_succ_self _) _ _ _ w (lv_sub hl [0, 1, 2, 3, 4, 5, 6, 7, 8] rfl)
    exact lp22 _ 0 0 M (by omega) (by omega) hI hF (Nat.lt_succ_self _) _ _ _ w (lv_sub hl [0, 1, 2, 3, 4, 5] rfl)
  · refine lv_iconst (v := zI 1) hx hb dX1_passOfFlat_10 rfl ?_
    refine lv_goto (tgt := 15) hx hb dX1_passOfFlat_11 (by decide) ?_
    refine lv_istore_n (lv' := [(3, .int (zI 1)), (0, .ref (B + 23)), (1, .ref (B + u1)), (2, .ref (B + a))]) hx hb dX1_passOfFlat_15 rfl hl (by decide) rfl (fun ls hl => ?_)
    refine lv_iconst (v := zI 0) hx hb dX1_passOfFlat_16 rfl ?_
    refine lv_istore (lv' := [(4, .int (zI 0)), (3, .int (zI 1)), (0, .ref (B + 23)), (1, .ref (B + u1)), (2, .ref (B + a))]) hx hb dX1_passOfFlat_17 hl (by decide) rfl (fun ls hl => ?_)
    refine lv_iconst (v := zI 0) hx hb dX1_passOfFlat_19 rfl ?_
    refine lv_istore (lv' := [(5, .int (zI 0)), (4, .int (zI 0)), (3, .int (zI 1)), (0, .ref (B + 23)), (1, .ref (B + u1)), (2, .ref (B + a))]) hx hb dX1_passOfFlat_20 hl (by decide) rfl (fun ls hl => ?_)
    have lp22 : ∀ (f : Nat) (v5_22 : Int) (v4_22 : Int)  (NL22 : Mem), (0 ≤ v5_22 ∧ v5_22 ≤ 12) → ((-2147483648) ≤ v4_22 ∧ v4_22 ≤ 2147483647) → Inv NL22 → Fr (fun b9 k9 => b9 = (a + 2)) NL22 M → (Int.toNat (12 - v5_22) < f) → ∀ (H : Heap) (locs : List Loc) (ls : Array Slot), Wd D B cy s s.heap NL22 H locs → lv_has ls 10 [(5, .int (zI v5_22)), (4, .int (zI v4_22)), (3, .int (zI 1)), (0, .ref (B + 23)), (1, .ref (B + u1)), (2, .ref (B + a))] → W p l e (rmm 2 40) s m args below meth c H locs 0 0 Q (F0 m 22 ls []) := by
      intro f
      induction f with
      | zero => intros; omega
      | succ f ih22 =>
        intro v5_22 v4_22  NL22 iv5_22 iv4_22 hIL22 hFL22 hf22 H locs ls w hl
        refine lv_iload hx hb dX1_passOfFlat_22 (lv_at hl 0 rfl) ?_
        refine lv_aload_n hx hb dX1_passOfFlat_24 rfl (lv_at hl 5 rfl) ?_
        refine f_9_1 F w (a := a) hka tb_69 dX1_passOfFlat_25 ?_
        obtain ⟨z28, bz28, ez28⟩ := Inv.ld (k := 1) hIL22 (iv_w1 hka) (by have := lt_w hka; omega)
        refine r_val ez28 ?_
        refine z_icmp_ge (tgt := 133) hx hb (by omega) (by omega) dX1_passOfFlat_28 (by decide) (fun c29 => ?_) (fun c29 => ?_)
        · refine lv_iload hx hb dX1_passOfFlat_133 (lv_at hl 1 rfl) ?_
          rw [hQ]
          exact e_i F w hr hlocks ⟨_, rfl, (by omega), hIL22, hFL22⟩ dX1_passOfFlat_135
        · refine lv_aload_n hx hb dX1_passOfFlat_31 rfl (lv_at hl 5 rfl) ?_
          refine lv_iload hx hb dX1_passOfFlat_32 (lv_at hl 0 rfl) ?_
          refine k_Vi F w (As := [.int (zI v5_22)]) (rest := []) (a := a) (kd_lt (a := a) hka (by decide)) (sh_9 hka _ _) rfl (q_X9_tonesOf (a := a) hka (y := v5_22) (by omega)  hIL22) gv_X1_64 hv_X9_tonesOf ⟨(Nat.le_of_ble_eq_true rfl), (Nat.le_of_ble_eq_true rfl)⟩ hl.1 rfl (Nat.le_of_ble_eq_true rfl) ⟨Nat.zero_le _, Nat.zero_le _⟩ dX1_passOfFlat_34 (fun r30 N31 H locs hp w => ?_)
          obtain ⟨z32, rfl, bz32, hMN31⟩ := hp
          rw [hMN31] at w
          refine lv_istore (lv' := [(6, .int (zI z32)), (5, .int (zI v5_22)), (4, .int (zI v4_22)), (3, .int (zI 1)), (0, .ref (B + 23)), (1, .ref (B + u1)), (2, .ref (B + a))]) hx hb dX1_passOfFlat_37 hl (by decide) rfl (fun ls hl => ?_)
          refine lv_iload hx hb dX1_passOfFlat_39 (lv_at hl 0 rfl) ?_
          refine k_Si F w (As := [.int (zI z32)]) (rest := []) (q_bitCount (x := z32) (by omega) ) gs_X1_67 hs_J6_bitCount_0f7a4 ⟨(Nat.le_of_ble_eq_true rfl), (Nat.le_of_ble_eq_true rfl)⟩ hl.1 rfl (Nat.le_of_ble_eq_true rfl) ⟨Nat.zero_le _, Nat.zero_le _⟩ dX1_passOfFlat_41 (fun r33 N34 H locs hp w => ?_)
          obtain ⟨hrz35, hMz35⟩ := hp
          rw [hMz35] at w
          obtain ⟨z35, bz35, ez35⟩ := pop_ex z32 (by omega)
          refine r_val (hrz35.trans ez35) ?_
          refine lv_aload_n hx hb dX1_passOfFlat_44 rfl (lv_at hl 5 rfl) ?_
          refine f_4_0 F w (a := u1) hku1 tb_79 dX1_passOfFlat_45 ?_
          refine lv_iconst (v := zI 3) hx hb dX1_passOfFlat_48 rfl ?_
          refine g_iald F w (a := (u1 + 1)) (iv_u hku1).2.2 (j := 3) ⟨by decide, by decide⟩ (by omega) dX1_passOfFlat_49 ?_
          obtain ⟨z36, bz36, ez36⟩ := Inv.ld (k := 3) hIL22 (iv_up hku1 _) (by have := lt_u hku1; omega)
          refine r_val ez36 ?_
          refine z_isub (z := (z35 - z36)) hx hb dX1_passOfFlat_50 (by omega) ?_
          refine lv_istore (lv' := [(7, .int (zI (z35 - z36))), (6, .int (zI z32)), (5, .int (zI v5_22)), (4, .int (zI v4_22)), (3, .int (zI 1)), (0, .ref (B + 23)), (1, .ref (B + u1)), (2, .ref (B + a))]) hx hb dX1_passOfFlat_51 hl (by decide) rfl (fun ls hl => ?_)
          refine lv_iconst (v := zI 0) hx hb dX1_passOfFlat_53 rfl ?_
          refine lv_istore (lv' := [(8, .int (zI 0)), (7, .int (zI (z35 - z36))), (6, .int (zI z32)), (5, .int (zI v5_22)), (4, .int (zI v4_22)), (3, .int (zI 1)), (0, .ref (B + 23)), (1, .ref (B + u1)), (2, .ref (B + a))]) hx hb dX1_passOfFlat_54 hl (by decide) rfl (fun ls hl => ?_)
          have lp56 : ∀ (f : Nat) (v8_56 : Int) (v6_56 : Int) (v4_56 : Int)  (NL56 : Mem), (0 ≤ v8_56 ∧ v8_56 ≤ 20) → (0 ≤ v6_56 ∧ v6_56 ≤ 4095) → ((-2147483648) ≤ v4_56 ∧ v4_56 ≤ 2147483647) → NL56.1 a 1 = zI z28 → Inv NL56 → Fr (fun b9 k9 => b9 = (a + 2)) NL56 M → (Int.toNat (14 - v8_56) < f) → ∀ (H : Heap) (locs : List Loc) (ls : Array Slot), Wd D B cy s s.heap NL56 H locs → lv_has ls 10 [(8, .int (zI v8_56)), (7, .int (zI (z35 - z36))), (6, .int (zI v6_56)), (5, .int (zI v5_22)), (4, .int (zI v4_56)), (3, .int (zI 1)), (0, .ref (B + 23)), (1, .ref (B + u1)), (2, .ref (B + a))] → W p l e (rmm 2 40) s m args below meth c H locs 0 0 Q (F0 m 56 ls []) := by
            intro f
            induction f with
            | zero => intros; omega
            | succ f ih56 =>
              intro v8_56 v6_56 v4_56  NL56 iv8_56 iv6_56 iv4_56 ega_1_56 hIL56 hFL56 hf56 H locs ls w hl
              refine lv_iload hx hb dX1_passOfFlat_56 (lv_at hl 0 rfl) ?_
              refine lv_iload hx hb dX1_passOfFlat_58 (lv_at hl 1 rfl) ?_
              refine z_icmp_ge (tgt := 127) hx hb (by omega) (by omega) dX1_passOfFlat_60 (by decide) (fun c37 => ?_) (fun c37 => ?_)
              · refine z_iinc (v := (v5_22 + 1)) (lv' := [(5, .int (zI (v5_22 + 1))), (8, .int (zI v8_56)), (7, .int (zI (z35 - z36))), (6, .int (zI v6_56)), (4, .int (zI v4_56)), (3, .int (zI 1)), (0, .ref (B + 23)), (1, .ref (B + u1)), (2, .ref (B + a))]) hx hb dX1_passOfFlat_127 hl (k := 3) rfl (by omega) (by decide) rfl (fun ls hl => ?_)
                refine lv_goto (tgt := 22) hx hb dX1_passOfFlat_130 (by decide) ?_
                exact ih22 (v5_22 + 1) v4_56 NL56 (by omega) (by omega)    hIL56 hFL56 (by omega) _ _ _ w (lv_sub hl [0, 4, 5, 6, 7, 8] rfl)
              · refine lv_iload_n hx hb dX1_passOfFlat_63 rfl (lv_at hl 5 rfl) ?_
                refine z_if_eq (tgt := 75) hx hb (by omega) dX1_passOfFlat_64 (by decide) (fun c38 => False.elim (by omega)) (fun c38 => ?_)
                refine lv_iload hx hb dX1_passOfFlat_67 (lv_at hl 2 rfl) ?_
                refine k_Ni F w (As := [.int (zI v6_56)]) (rest := []) (q_highest (x := v6_56) (by omega) ) gc_X11_highest tb_95 tb_97 (by decide) hs_X11_highest ⟨(Nat.le_of_ble_eq_true rfl), (Nat.le_of_ble_eq_true rfl)⟩ hl.1 rfl (Nat.le_of_ble_eq_true rfl) ⟨Nat.zero_le _, Nat.zero_le _⟩ dX1_passOfFlat_69 (fun r39 N40 H locs hp w => ?_)
                obtain ⟨hrz41, hMz41⟩ := hp
                rw [hMz41] at w
                obtain ⟨z41, bz41, xz41, ez41⟩ := hig_ex v6_56 (by omega)
                refine r_val (hrz41.trans ez41) ?_
                refine lv_goto (tgt := 80) hx hb dX1_passOfFlat_72 (by decide) ?_
                refine lv_istore (lv' := [(9, .int (zI z41)), (8, .int (zI v8_56)), (7, .int (zI (z35 - z36))), (6, .int (zI v6_56)), (5, .int (zI v5_22)), (4, .int (zI v4_56)), (3, .int (zI 1)), (0, .ref (B + 23)), (1, .ref (B + u1)), (2, .ref (B + a))]) hx hb dX1_passOfFlat_80 hl (by decide) rfl (fun ls hl => ?_)
                refine lv_aload_n hx hb dX1_passOfFlat_82 rfl (lv_at hl 9 rfl) ?_
                refine lv_iload hx hb dX1_passOfFlat_83 (lv_at hl 0 rfl) ?_
                obtain ⟨z42, bz42, ez42⟩ := Inv.ld (k := 0) hIL56 (iv_w0 hka) (by have := lt_w hka; omega)
                refine k_Vi F w (As := [.int (zI z41)]) (rest := []) (a := a) (kd_lt (a := a) hka (by decide)) (sh_9 hka _ _) rfl (q_X9_hasTone (a := a) hka (t := z41) (by omega) (nn := z42) (ez42) (by omega)  hIL56) gv_X1_47 hv_X9_hasTone ⟨(Nat.le_of_ble_eq_true rfl), (Nat.le_of_ble_eq_true rfl)⟩ hl.1 rfl (Nat.le_of_ble_eq_true rfl) ⟨Nat.zero_le _, Nat.zero_le _⟩ dX1_passOfFlat_85 (fun r43 N44 H locs hp w => ?_)
                obtain ⟨z45, rfl, bz45, xz45, hMN44⟩ := hp
                rw [hMN44] at w
                refine z_if_eq (tgt := 121) hx hb (by omega) dX1_passOfFlat_88 (by decide) (fun c46 => ?_) (fun c46 => ?_)
                · refine z_iinc (v := (v8_56 + 1)) (lv' := [(8, .int (zI (v8_56 + 1))), (9, .int (zI z41)), (7, .int (zI (z35 - z36))), (6, .int (zI v6_56)), (5, .int (zI v5_22)), (4, .int (zI v4_56)), (3, .int (zI 1)), (0, .ref (B + 23)), (1, .ref (B + u1)), (2, .ref (B + a))]) hx hb dX1_passOfFlat_121 hl (k := 1) rfl (by omega) (by decide) rfl (fun ls hl => ?_)
                  refine lv_goto (tgt := 56) hx hb dX1_passOfFlat_124 (by decide) ?_
                  exact ih56 (v8_56 + 1) v6_56 v4_56 NL56 (by omega) (by omega) (by omega)  (ega_1_56)  hIL56 hFL56 (by omega) _ _ _ w (lv_sub hl [0, 2, 3, 4, 5, 6, 7, 8, 9] rfl)
                · refine lv_aload_n hx hb dX1_passOfFlat_91 rfl (lv_at hl 9 rfl) ?_
                  refine f_9_5 F w (a := a) hka tb_78 dX1_passOfFlat_92 ?_
                  refine lv_iload hx hb dX1_passOfFlat_95 (lv_at hl 0 rfl) ?_
                  refine lv_dup2_11 hx hb dX1_passOfFlat_97 rfl rfl ?_
                  refine g_iald F w (a := (a + 2)) (kd_w2 hka) (j := (Int.toNat z41)) (ix_z (by omega) (by omega)) (by omega) dX1_passOfFlat_98 ?_
                  obtain ⟨z47, bz47, ez47⟩ := Inv.ld (k := (Int.toNat z41)) hIL56 (iv_wl hka _) (by have := lt_w hka; omega)
                  refine r_val ez47 ?_
                  refine lv_iconst (v := zI 1) hx hb dX1_passOfFlat_99 rfl ?_
                  refine lv_iload hx hb dX1_passOfFlat_100 (lv_at hl 4 rfl) ?_
                  obtain ⟨z48, bz48, x0z48, ez48⟩ := shl_ex 1 v5_22
                  refine lv_ishl hx hb dX1_passOfFlat_102 ?_
                  refine r_val ez48 ?_
                  refine lv_iconst (v := zI (-1)) hx hb dX1_passOfFlat_103 rfl ?_
                  refine lv_ixor hx hb dX1_passOfFlat_104 ?_
                  refine r_val (not_ex z48) ?_
                  obtain ⟨z49, bz49, x0z49, x1z49, ez49⟩ := and_ex z47 (-z48 - 1) (by omega) (by omega)
                  refine lv_iand hx hb dX1_passOfFlat_105 ?_
                  refine r_val ez49 ?_
                  refine g_iast F w (a := (a + 2)) (kd_w2 hka) (j := (Int.toNat z41)) (ix_z (by omega) (by omega)) (by omega) dX1_passOfFlat_106 (fun H locs w => ?_)
                  refine lv_iload hx hb dX1_passOfFlat_107 (lv_at hl 3 rfl) ?_
                  refine lv_iconst (v := zI 1) hx hb dX1_passOfFlat_109 rfl ?_
                  refine lv_iload hx hb dX1_passOfFlat_110 (lv_at hl 0 rfl) ?_
                  obtain ⟨z50, bz50, x0z50, ez50⟩ := shl_ex 1 z41
                  refine lv_ishl hx hb dX1_passOfFlat_112 ?_
                  refine r_val ez50 ?_
                  refine lv_iconst (v := zI (-1)) hx hb dX1_passOfFlat_113 rfl ?_
                  refine lv_ixor hx hb dX1_passOfFlat_114 ?_
                  refine r_val (not_ex z50) ?_
                  obtain ⟨z51, bz51, x0z51, x1z51, ez51⟩ := and_ex v6_56 (-z50 - 1) (by omega) (by omega)
                  refine lv_iand hx hb dX1_passOfFlat_115 ?_
                  refine r_val ez51 ?_
                  refine lv_istore (lv' := [(6, .int (zI z51)), (9, .int (zI z41)), (8, .int (zI v8_56)), (7, .int (zI (z35 - z36))), (5, .int (zI v5_22)), (4, .int (zI v4_56)), (3, .int (zI 1)), (0, .ref (B + 23)), (1, .ref (B + u1)), (2, .ref (B + a))]) hx hb dX1_passOfFlat_116 hl (by decide) rfl (fun ls hl => ?_)
                  obtain ⟨z52, bz52, x0z52, ez52⟩ := add_ex v4_56 1
                  refine lv_iinc (v := zI z52) (lv' := [(4, .int (zI z52)), (6, .int (zI z51)), (9, .int (zI z41)), (8, .int (zI v8_56)), (7, .int (zI (z35 - z36))), (5, .int (zI v5_22)), (3, .int (zI 1)), (0, .ref (B + 23)), (1, .ref (B + u1)), (2, .ref (B + a))]) hx hb dX1_passOfFlat_118 hl (k := 5) rfl (by first | exact ez52 | (rw [← ez52]; rfl)) (by decide) rfl (fun ls hl => ?_)
                  refine z_iinc (v := (v8_56 + 1)) (lv' := [(8, .int (zI (v8_56 + 1))), (4, .int (zI z52)), (6, .int (zI z51)), (9, .int (zI z41)), (7, .int (zI (z35 - z36))), (5, .int (zI v5_22)), (3, .int (zI 1)), (0, .ref (B + 23)), (1, .ref (B + u1)), (2, .ref (B + a))]) hx hb dX1_passOfFlat_121 hl (k := 3) rfl (by omega) (by decide) rfl (fun ls hl => ?_)
                  refine lv_goto (tgt := 56) hx hb dX1_passOfFlat_124 (by decide) ?_
                  exact ih56 (v8_56 + 1) z51 z52 (st NL56 (a + 2) (Int.toNat z41) (zI z49)) (by omega) (by omega) (by omega)  ((st_ne (Or.inl (by omega))).trans ega_1_56)  (Inv.to hIL56 (a := (a + 2)) (k := (Int.toNat z41)) (x := z49) (iv_wl hka _) (by omega)) (Fr.to hFL56 (by first | omega | (dsimp only; first | done | omega))) (by omega) _ _ _ w (lv_sub hl [0, 4, 2, 5, 1, 6, 7, 8, 9] rfl)
          exact lp56 _ 0 z32 v4_22 NL22 (by omega) (by omega) (by omega) (ez28) hIL22 hFL22 (Nat.lt_succ_self _) _ _ _ w (lv_sub hl [0, 1, 2, 3, 4, 5, 6, 7, 8] rfl)
    exact lp22 _ 0 0 M (by omega) (by omega) hI hF (Nat.lt_succ_self _) _ _ _ w (lv_sub hl [0, 1, 2, 3, 4, 5] rfl)
theorem dX1_placeToFill_0 : decode cX1_placeToFill 0 = .ok (.iconst 0, 1) := wdX1_placeToFill_0
theorem dX1_placeToFill_1 : decode cX1_placeToFill 1 = .ok (.istore_n 3, 1) := wdX1_placeToFill_1
theorem dX1_placeToFill_2 : decode cX1_placeToFill 2 = .ok (.iconst 0, 1) := wdX1_placeToFill_2
theorem dX1_placeToFill_3 : decode cX1_placeToFill 3 = .ok (.istore 4, 2) := wdX1_placeToFill_3
theorem dX1_placeToFill_5 : decode cX1_placeToFill 5 = .ok (.iload 4, 2) := wdX1_placeToFill_5
theorem dX1_placeToFill_7 : decode cX1_placeToFill 7 = .ok (.aload_n 1, 1) := wdX1_placeToFill_7
theorem dX1_placeToFill_8 : decode cX1_placeToFill 8 = .ok (.getfield 53, 3) := wdX1_placeToFill_8
theorem dX1_placeToFill_11 : decode cX1_placeToFill 11 = .ok (.if_icmp .ge 29, 3) := wdX1_placeToFill_11
theorem dX1_placeToFill_40 : decode cX1_placeToFill 40 = .ok (.iload_n 3, 1) := wdX1_placeToFill_40
theorem dX1_placeToFill_41 : decode cX1_placeToFill 41 = .ok (.ireturn, 1) := wdX1_placeToFill_41
theorem dX1_placeToFill_14 : decode cX1_placeToFill 14 = .ok (.aload_n 1, 1) := wdX1_placeToFill_14
theorem dX1_placeToFill_15 : decode cX1_placeToFill 15 = .ok (.iload 4, 2) := wdX1_placeToFill_15
theorem dX1_placeToFill_17 : decode cX1_placeToFill 17 = .ok (.invokevirtual 56, 3) := wdX1_placeToFill_17
theorem dX1_placeToFill_20 : decode cX1_placeToFill 20 = .ok (.iconst 1, 1) := wdX1_placeToFill_20
theorem dX1_placeToFill_21 : decode cX1_placeToFill 21 = .ok (.iload_n 2, 1) := wdX1_placeToFill_21
theorem dX1_placeToFill_22 : decode cX1_placeToFill 22 = .ok (.ishl, 1) := wdX1_placeToFill_22
theorem dX1_placeToFill_23 : decode cX1_placeToFill 23 = .ok (.iconst 1, 1) := wdX1_placeToFill_23
theorem dX1_placeToFill_24 : decode cX1_placeToFill 24 = .ok (.isub, 1) := wdX1_placeToFill_24
theorem dX1_placeToFill_25 : decode cX1_placeToFill 25 = .ok (.iand, 1) := wdX1_placeToFill_25
theorem dX1_placeToFill_26 : decode cX1_placeToFill 26 = .ok (.ifCond .eq 8, 3) := wdX1_placeToFill_26
theorem dX1_placeToFill_34 : decode cX1_placeToFill 34 = .ok (.iinc 4 1, 3) := wdX1_placeToFill_34
theorem dX1_placeToFill_37 : decode cX1_placeToFill 37 = .ok (.goto (-32), 3) := wdX1_placeToFill_37
theorem dX1_placeToFill_29 : decode cX1_placeToFill 29 = .ok (.iload 4, 2) := wdX1_placeToFill_29
theorem dX1_placeToFill_31 : decode cX1_placeToFill 31 = .ok (.iconst 1, 1) := wdX1_placeToFill_31
theorem dX1_placeToFill_32 : decode cX1_placeToFill 32 = .ok (.iadd, 1) := wdX1_placeToFill_32
theorem dX1_placeToFill_33 : decode cX1_placeToFill 33 = .ok (.istore_n 3, 1) := wdX1_placeToFill_33
set_option maxRecDepth 4000 in
theorem q_X1_placeToFill {l : Launch} {D : va_G} {B : Nat} {cy : Nat → ClassId} {M : Mem} {a : Nat} (hka : kd a = (9, 0, 0)) {y : Int} (hy : 0 ≤ y ∧ y ≤ 11) {nn : Int} (hgnn : M.1 a 0 = zI nn) (hnn : 0 ≤ nn ∧ nn ≤ 12) (hI : Inv M) : Ci l D B cy yX1_placeToFill cX1_placeToFill 5 (some .int) 2 42 [.ref (B + 23), .ref (B + a), .int (zI y)] M (fun r M1 => ∃ z : Int, r = zI z ∧ (0 ≤ z ∧ z ≤ 12) ∧ (z ≤ nn) ∧ M1 = M) := by
  refine s_anyQ (by decide) (Nat.le_of_ble_eq_true rfl) ?_
  intro p e s m args below meth c ls Q F hr hlocks hQ w hl
  have F : CallFix p m c cX1_placeToFill 5 s args TB RX1 := F
  have hx := F.1
  have hb := F.2.1
  have hl : lv_has ls 5 [(0, .ref (B + 23)), (1, .ref (B + a)), (2, .int (zI y))] := hl
  refine lv_iconst (v := zI 0) hx hb dX1_placeToFill_0 rfl ?_
  refine lv_istore_n (lv' := [(3, .int (zI 0)), (0, .ref (B + 23)), (1, .ref (B + a)), (2, .int (zI y))]) hx hb dX1_placeToFill_1 rfl hl (by decide) rfl (fun ls hl => ?_)
  refine lv_iconst (v := zI 0) hx hb dX1_placeToFill_2 rfl ?_
  refine lv_istore (lv' := [(4, .int (zI 0)), (3, .int (zI 0)), (0, .ref (B + 23)), (1, .ref (B + a)), (2, .int (zI y))]) hx hb dX1_placeToFill_3 hl (by decide) rfl (fun ls hl => ?_)
  have lp5 : ∀ (f : Nat) (v4_5 : Int) (v3_5 : Int), (0 ≤ v4_5 ∧ v4_5 ≤ 12) → (0 ≤ v3_5 ∧ v3_5 ≤ 12) → (v3_5 ≤ v4_5) → (v4_5 ≤ nn) → (Int.toNat (12 - v4_5) < f) → ∀ (H : Heap) (locs : List Loc) (ls : Array Slot), Wd D B cy s s.heap M H locs → lv_has ls 5 [(4, .int (zI v4_5)), (3, .int (zI v3_5)), (0, .ref (B + 23)), (1, .ref (B + a)), (2, .int (zI y))] → W p l e (rmm 2 42) s m args below meth c H locs 0 0 Q (F0 m 5 ls []) := by
    intro f
    induction f with
    | zero => intros; omega
    | succ f ih5 =>
      intro v4_5 v3_5  iv4_5 iv3_5 y5_0 y5_1 hf5 H locs ls w hl
      refine lv_iload hx hb dX1_placeToFill_5 (lv_at hl 0 rfl) ?_
      refine lv_aload_n hx hb dX1_placeToFill_7 rfl (lv_at hl 3 rfl) ?_
      refine f_9_0 F w (a := a) hka tb_62 dX1_placeToFill_8 ?_
      refine r_val (v := zI nn) (hgnn) ?_
      refine z_icmp_ge (tgt := 40) hx hb (by omega) (by omega) dX1_placeToFill_11 (by decide) (fun c1 => ?_) (fun c1 => ?_)
      · refine lv_iload_n hx hb dX1_placeToFill_40 rfl (lv_at hl 1 rfl) ?_
        rw [hQ]
        exact e_i F w hr hlocks ⟨_, rfl, (by omega), (by omega), rfl⟩ dX1_placeToFill_41
      · refine lv_aload_n hx hb dX1_placeToFill_14 rfl (lv_at hl 3 rfl) ?_
        refine lv_iload hx hb dX1_placeToFill_15 (lv_at hl 0 rfl) ?_
        refine k_Vi F w (As := [.int (zI v4_5)]) (rest := []) (a := a) (kd_lt (a := a) hka (by decide)) (sh_9 hka _ _) rfl (q_X9_linesFrom (a := a) hka (t := v4_5) (by omega)  hI) gv_X1_56 hv_X9_linesFrom ⟨(Nat.le_of_ble_eq_true rfl), (Nat.le_of_ble_eq_true rfl)⟩ hl.1 rfl (Nat.le_of_ble_eq_true rfl) ⟨Nat.zero_le _, Nat.zero_le _⟩ dX1_placeToFill_17 (fun r2 N3 H locs hp w => ?_)
        obtain ⟨z4, rfl, bz4, hMN3⟩ := hp
        rw [hMN3] at w
        refine lv_iconst (v := zI 1) hx hb dX1_placeToFill_20 rfl ?_
        refine lv_iload_n hx hb dX1_placeToFill_21 rfl (lv_at hl 4 rfl) ?_
        obtain ⟨z5, bz5, x0z5, ez5⟩ := shl_ex 1 y
        refine lv_ishl hx hb dX1_placeToFill_22 ?_
        refine r_val ez5 ?_
        refine lv_iconst (v := zI 1) hx hb dX1_placeToFill_23 rfl ?_
        refine z_isub (z := (z5 - 1)) hx hb dX1_placeToFill_24 (by omega) ?_
        obtain ⟨z6, bz6, x0z6, x1z6, ez6⟩ := and_ex z4 (z5 - 1) (by omega) (by omega)
        refine lv_iand hx hb dX1_placeToFill_25 ?_
        refine r_val ez6 ?_
        refine z_if_eq (tgt := 34) hx hb (by omega) dX1_placeToFill_26 (by decide) (fun c7 => ?_) (fun c7 => ?_)
        · refine z_iinc (v := (v4_5 + 1)) (lv' := [(4, .int (zI (v4_5 + 1))), (3, .int (zI v3_5)), (0, .ref (B + 23)), (1, .ref (B + a)), (2, .int (zI y))]) hx hb dX1_placeToFill_34 hl (k := 0) rfl (by omega) (by decide) rfl (fun ls hl => ?_)
          refine lv_goto (tgt := 5) hx hb dX1_placeToFill_37 (by decide) ?_
          exact ih5 (v4_5 + 1) v3_5 (by omega) (by omega)   (by omega) (by omega)  (by omega) _ _ _ w (lv_sub hl [0, 1, 2, 3, 4] rfl)
        · refine lv_iload hx hb dX1_placeToFill_29 (lv_at hl 0 rfl) ?_
          refine lv_iconst (v := zI 1) hx hb dX1_placeToFill_31 rfl ?_
          refine z_iadd (z := (v4_5 + 1)) hx hb dX1_placeToFill_32 (by omega) ?_
          refine lv_istore_n (lv' := [(3, .int (zI (v4_5 + 1))), (4, .int (zI v4_5)), (0, .ref (B + 23)), (1, .ref (B + a)), (2, .int (zI y))]) hx hb dX1_placeToFill_33 rfl hl (by decide) rfl (fun ls hl => ?_)
          refine z_iinc (v := (v4_5 + 1)) (lv' := [(4, .int (zI (v4_5 + 1))), (3, .int (zI (v4_5 + 1))), (0, .ref (B + 23)), (1, .ref (B + a)), (2, .int (zI y))]) hx hb dX1_placeToFill_34 hl (k := 1) rfl (by omega) (by decide) rfl (fun ls hl => ?_)
          refine lv_goto (tgt := 5) hx hb dX1_placeToFill_37 (by decide) ?_
          exact ih5 (v4_5 + 1) (v4_5 + 1) (by omega) (by omega)   (by omega) (by omega)  (by omega) _ _ _ w (lv_sub hl [0, 1, 2, 3, 4] rfl)
  exact lp5 _ 0 0 (by omega) (by omega) (by omega) (by omega) (Nat.lt_succ_self _) _ _ _ w (lv_sub hl [0, 1, 2, 3, 4] rfl)
theorem dX1_passOfFill_0 : decode cX1_passOfFill 0 = .ok (.iconst 0, 1) := wdX1_passOfFill_0
theorem dX1_passOfFill_1 : decode cX1_passOfFill 1 = .ok (.istore_n 3, 1) := wdX1_passOfFill_1
theorem dX1_passOfFill_2 : decode cX1_passOfFill 2 = .ok (.iconst 0, 1) := wdX1_passOfFill_2
theorem dX1_passOfFill_3 : decode cX1_passOfFill 3 = .ok (.istore 4, 2) := wdX1_passOfFill_3
theorem dX1_passOfFill_5 : decode cX1_passOfFill 5 = .ok (.iload 4, 2) := wdX1_passOfFill_5
theorem dX1_passOfFill_7 : decode cX1_passOfFill 7 = .ok (.aload_n 2, 1) := wdX1_passOfFill_7
theorem dX1_passOfFill_8 : decode cX1_passOfFill 8 = .ok (.getfield 34, 3) := wdX1_passOfFill_8
theorem dX1_passOfFill_11 : decode cX1_passOfFill 11 = .ok (.if_icmp .ge 88, 3) := wdX1_passOfFill_11
theorem dX1_passOfFill_99 : decode cX1_passOfFill 99 = .ok (.iload_n 3, 1) := wdX1_passOfFill_99
theorem dX1_passOfFill_100 : decode cX1_passOfFill 100 = .ok (.ireturn, 1) := wdX1_passOfFill_100
theorem dX1_passOfFill_14 : decode cX1_passOfFill 14 = .ok (.aload_n 2, 1) := wdX1_passOfFill_14
theorem dX1_passOfFill_15 : decode cX1_passOfFill 15 = .ok (.iload 4, 2) := wdX1_passOfFill_15
theorem dX1_passOfFill_17 : decode cX1_passOfFill 17 = .ok (.invokevirtual 39, 3) := wdX1_passOfFill_17
theorem dX1_passOfFill_20 : decode cX1_passOfFill 20 = .ok (.ifCond .eq 13, 3) := wdX1_passOfFill_20
theorem dX1_passOfFill_33 : decode cX1_passOfFill 33 = .ok (.iconst (-1), 1) := wdX1_passOfFill_33
theorem dX1_passOfFill_34 : decode cX1_passOfFill 34 = .ok (.istore 5, 2) := wdX1_passOfFill_34
theorem dX1_passOfFill_36 : decode cX1_passOfFill 36 = .ok (.iload 5, 2) := wdX1_passOfFill_36
theorem dX1_passOfFill_38 : decode cX1_passOfFill 38 = .ok (.iconst (-1), 1) := wdX1_passOfFill_38
theorem dX1_passOfFill_39 : decode cX1_passOfFill 39 = .ok (.if_icmp .eq 54, 3) := wdX1_passOfFill_39
theorem dX1_passOfFill_93 : decode cX1_passOfFill 93 = .ok (.iinc 4 1, 3) := wdX1_passOfFill_93
theorem dX1_passOfFill_96 : decode cX1_passOfFill 96 = .ok (.goto (-91), 3) := wdX1_passOfFill_96
theorem dX1_passOfFill_23 : decode cX1_passOfFill 23 = .ok (.aload_n 0, 1) := wdX1_passOfFill_23
theorem dX1_passOfFill_24 : decode cX1_passOfFill 24 = .ok (.aload_n 2, 1) := wdX1_passOfFill_24
theorem dX1_passOfFill_25 : decode cX1_passOfFill 25 = .ok (.iload 4, 2) := wdX1_passOfFill_25
theorem dX1_passOfFill_27 : decode cX1_passOfFill 27 = .ok (.invokevirtual 78, 3) := wdX1_passOfFill_27
theorem tk_X1_placeToFill : Cond.code yX1_placeToFill cX1_placeToFill 5 (some .int) ∈ TB := wtk_X1_placeToFill
theorem gc_X1_placeToFill : GoodIn TB (cw yX1_placeToFill cX1_placeToFill 5 (some .int)) := goodIn_c2 tk_X1_placeToFill
theorem tb_125 : Cond.methodLink "ToneLines$Doer" 78 yX1_placeToFill ∈ TB := wtb_49
theorem tb_126 : Cond.instanceMethod yX1_placeToFill ∈ TB := wtb_50
theorem tb_127 : Cond.selects "ToneLines$Doer" yX1_placeToFill yX1_placeToFill ∈ TB := wtb_51
theorem gv_X1_78 : GoodIn TB (wsV RX1 78 RX1 yX1_placeToFill (cw yX1_placeToFill cX1_placeToFill 5 (some .int))) := goodIn_4 tb_125 tb_126 tb_127 tb_76 gc_X1_placeToFill
theorem hv_X1_placeToFill : yX1_placeToFill.cls = RX1 ∧ yX1_placeToFill.cls ≠ "java/lang/invoke/MethodHandle" ∧ yX1_placeToFill.cls ≠ "java/lang/invoke/VarHandle" ∧ (parseMethodDescriptor yX1_placeToFill.desc).map (fun d => d.parameters.length) = some 2 := whv_X1_placeToFill
theorem dX1_passOfFill_30 : decode cX1_passOfFill 30 = .ok (.goto 4, 3) := wdX1_passOfFill_30
theorem dX1_passOfFill_42 : decode cX1_passOfFill 42 = .ok (.aload_n 2, 1) := wdX1_passOfFill_42
theorem dX1_passOfFill_43 : decode cX1_passOfFill 43 = .ok (.getfield 53, 3) := wdX1_passOfFill_43
theorem dX1_passOfFill_46 : decode cX1_passOfFill 46 = .ok (.bipush 12, 2) := wdX1_passOfFill_46
theorem dX1_passOfFill_48 : decode cX1_passOfFill 48 = .ok (.if_icmp .ge 45, 3) := wdX1_passOfFill_48
theorem dX1_passOfFill_51 : decode cX1_passOfFill 51 = .ok (.aload_n 2, 1) := wdX1_passOfFill_51
theorem dX1_passOfFill_52 : decode cX1_passOfFill 52 = .ok (.iload 5, 2) := wdX1_passOfFill_52
theorem dX1_passOfFill_54 : decode cX1_passOfFill 54 = .ok (.iload 5, 2) := wdX1_passOfFill_54
theorem dX1_passOfFill_56 : decode cX1_passOfFill 56 = .ok (.iload 4, 2) := wdX1_passOfFill_56
theorem dX1_passOfFill_58 : decode cX1_passOfFill 58 = .ok (.invokevirtual 82, 3) := wdX1_passOfFill_58
theorem tb_128 : Cond.methodLink "ToneLines$Doer" 82 yX9_crossesNone ∈ TB := wtb_53
theorem gv_X1_82 : GoodIn TB (wsV RX1 82 RX9 yX9_crossesNone (cw yX9_crossesNone cX9_crossesNone 7 (some .boolean))) := goodIn_4 tb_128 tb_17 tb_18 tb_5 gc_X9_crossesNone
theorem dX1_passOfFill_61 : decode cX1_passOfFill 61 = .ok (.ifCond .eq 32, 3) := wdX1_passOfFill_61
theorem dX1_passOfFill_64 : decode cX1_passOfFill 64 = .ok (.aload_n 2, 1) := wdX1_passOfFill_64
theorem dX1_passOfFill_65 : decode cX1_passOfFill 65 = .ok (.iload 5, 2) := wdX1_passOfFill_65
theorem dX1_passOfFill_67 : decode cX1_passOfFill 67 = .ok (.aload_n 1, 1) := wdX1_passOfFill_67
theorem dX1_passOfFill_68 : decode cX1_passOfFill 68 = .ok (.getfield 15, 3) := wdX1_passOfFill_68
theorem dX1_passOfFill_71 : decode cX1_passOfFill 71 = .ok (.iconst 2, 1) := wdX1_passOfFill_71
theorem dX1_passOfFill_72 : decode cX1_passOfFill 72 = .ok (.iaload, 1) := wdX1_passOfFill_72
theorem dX1_passOfFill_73 : decode cX1_passOfFill 73 = .ok (.invokevirtual 86, 3) := wdX1_passOfFill_73
theorem tk_X9_insertTone : Cond.code yX9_insertTone cX9_insertTone 4 none ∈ TB := wtk_X9_insertTone
theorem gc_X9_insertTone : GoodIn TB (cw yX9_insertTone cX9_insertTone 4 none) := goodIn_c2 tk_X9_insertTone
theorem tb_129 : Cond.methodLink "ToneLines$Doer" 86 yX9_insertTone ∈ TB := wtb_56
theorem tb_130 : Cond.instanceMethod yX9_insertTone ∈ TB := wtb_57
theorem tb_131 : Cond.selects "ToneLines$Word" yX9_insertTone yX9_insertTone ∈ TB := wtb_58
theorem gv_X1_86 : GoodIn TB (wsV RX1 86 RX9 yX9_insertTone (cw yX9_insertTone cX9_insertTone 4 none)) := goodIn_4 tb_129 tb_130 tb_131 tb_5 gc_X9_insertTone
theorem hv_X9_insertTone : yX9_insertTone.cls = RX9 ∧ yX9_insertTone.cls ≠ "java/lang/invoke/MethodHandle" ∧ yX9_insertTone.cls ≠ "java/lang/invoke/VarHandle" ∧ (parseMethodDescriptor yX9_insertTone.desc).map (fun d => d.parameters.length) = some 2 := whv_X9_insertTone
theorem dX1_passOfFill_76 : decode cX1_passOfFill 76 = .ok (.aload_n 2, 1) := wdX1_passOfFill_76
theorem dX1_passOfFill_77 : decode cX1_passOfFill 77 = .ok (.getfield 50, 3) := wdX1_passOfFill_77
theorem dX1_passOfFill_80 : decode cX1_passOfFill 80 = .ok (.iload 5, 2) := wdX1_passOfFill_80
theorem dX1_passOfFill_82 : decode cX1_passOfFill 82 = .ok (.dup2, 1) := wdX1_passOfFill_82
theorem dX1_passOfFill_83 : decode cX1_passOfFill 83 = .ok (.iaload, 1) := wdX1_passOfFill_83
theorem dX1_passOfFill_84 : decode cX1_passOfFill 84 = .ok (.iconst 1, 1) := wdX1_passOfFill_84
theorem dX1_passOfFill_85 : decode cX1_passOfFill 85 = .ok (.iload 4, 2) := wdX1_passOfFill_85
theorem dX1_passOfFill_87 : decode cX1_passOfFill 87 = .ok (.ishl, 1) := wdX1_passOfFill_87
theorem dX1_passOfFill_88 : decode cX1_passOfFill 88 = .ok (.ior, 1) := wdX1_passOfFill_88
theorem dX1_passOfFill_89 : decode cX1_passOfFill 89 = .ok (.iastore, 1) := wdX1_passOfFill_89
theorem dX1_passOfFill_90 : decode cX1_passOfFill 90 = .ok (.iinc 3 2, 3) := wdX1_passOfFill_90
set_option maxRecDepth 4000 in
theorem q_X1_passOfFill {l : Launch} {D : va_G} {B : Nat} {cy : Nat → ClassId} {M : Mem} {u1 : Nat} (hku1 : kd u1 = (4, 0, 0)) {a : Nat} (hka : kd a = (9, 0, 0)) (hI : Inv M) : Ci l D B cy yX1_passOfFill cX1_passOfFill 6 (some .int) 3 66 [.ref (B + 23), .ref (B + u1), .ref (B + a)] M (fun r M1 => ∃ z : Int, r = zI z ∧ ((-2147483648) ≤ z ∧ z ≤ 2147483647) ∧ Inv M1 ∧ Fr (fun b9 k9 => b9 = (a + 1) ∨ b9 = (a + 2) ∨ b9 = a) M1 M) := by
  refine s_anyQ (by decide) (Nat.le_of_ble_eq_true rfl) ?_
  intro p e s m args below meth c ls Q F hr hlocks hQ w hl
  have F : CallFix p m c cX1_passOfFill 6 s args TB RX1 := F
  have hx := F.1
  have hb := F.2.1
  have hl : lv_has ls 6 [(0, .ref (B + 23)), (1, .ref (B + u1)), (2, .ref (B + a))] := hl
  have hF : Fr (fun b9 k9 => b9 = (a + 1) ∨ b9 = (a + 2) ∨ b9 = a) M M := Fr.rf
  refine lv_iconst (v := zI 0) hx hb dX1_passOfFill_0 rfl ?_
  refine lv_istore_n (lv' := [(3, .int (zI 0)), (0, .ref (B + 23)), (1, .ref (B + u1)), (2, .ref (B + a))]) hx hb dX1_passOfFill_1 rfl hl (by decide) rfl (fun ls hl => ?_)
  refine lv_iconst (v := zI 0) hx hb dX1_passOfFill_2 rfl ?_
  refine lv_istore (lv' := [(4, .int (zI 0)), (3, .int (zI 0)), (0, .ref (B + 23)), (1, .ref (B + u1)), (2, .ref (B + a))]) hx hb dX1_passOfFill_3 hl (by decide) rfl (fun ls hl => ?_)
  have lp5 : ∀ (f : Nat) (v4_5 : Int) (v3_5 : Int)  (NL5 : Mem), (0 ≤ v4_5 ∧ v4_5 ≤ 12) → ((-2147483648) ≤ v3_5 ∧ v3_5 ≤ 2147483647) → Inv NL5 → Fr (fun b9 k9 => b9 = (a + 1) ∨ b9 = (a + 2) ∨ b9 = a) NL5 M → (Int.toNat (12 - v4_5) < f) → ∀ (H : Heap) (locs : List Loc) (ls : Array Slot), Wd D B cy s s.heap NL5 H locs → lv_has ls 6 [(4, .int (zI v4_5)), (3, .int (zI v3_5)), (0, .ref (B + 23)), (1, .ref (B + u1)), (2, .ref (B + a))] → W p l e (rmm 3 66) s m args below meth c H locs 0 0 Q (F0 m 5 ls []) := by
    intro f
    induction f with
    | zero => intros; omega
    | succ f ih5 =>
      intro v4_5 v3_5  NL5 iv4_5 iv3_5 hIL5 hFL5 hf5 H locs ls w hl
      refine lv_iload hx hb dX1_passOfFill_5 (lv_at hl 0 rfl) ?_
      refine lv_aload_n hx hb dX1_passOfFill_7 rfl (lv_at hl 4 rfl) ?_
      refine f_9_1 F w (a := a) hka tb_69 dX1_passOfFill_8 ?_
      obtain ⟨z1, bz1, ez1⟩ := Inv.ld (k := 1) hIL5 (iv_w1 hka) (by have := lt_w hka; omega)
      refine r_val ez1 ?_
      refine z_icmp_ge (tgt := 99) hx hb (by omega) (by omega) dX1_passOfFill_11 (by decide) (fun c2 => ?_) (fun c2 => ?_)
      · refine lv_iload_n hx hb dX1_passOfFill_99 rfl (lv_at hl 1 rfl) ?_
        rw [hQ]
        exact e_i F w hr hlocks ⟨_, rfl, (by omega), hIL5, hFL5⟩ dX1_passOfFill_100
      · refine lv_aload_n hx hb dX1_passOfFill_14 rfl (lv_at hl 4 rfl) ?_
        refine lv_iload hx hb dX1_passOfFill_15 (lv_at hl 0 rfl) ?_
        refine k_Vi F w (As := [.int (zI v4_5)]) (rest := []) (a := a) (kd_lt (a := a) hka (by decide)) (sh_9 hka _ _) rfl (q_X9_isBare (a := a) hka (y := v4_5) (by omega)  hIL5) gv_X1_39 hv_X9_isBare ⟨(Nat.le_of_ble_eq_true rfl), (Nat.le_of_ble_eq_true rfl)⟩ hl.1 rfl (Nat.le_of_ble_eq_true rfl) ⟨Nat.zero_le _, Nat.zero_le _⟩ dX1_passOfFill_17 (fun r3 N4 H locs hp w => ?_)
        obtain ⟨z5, rfl, bz5, xz5, hMN4⟩ := hp
        rw [hMN4] at w
        refine z_if_eq (tgt := 33) hx hb (by omega) dX1_passOfFill_20 (by decide) (fun c6 => ?_) (fun c6 => ?_)
        · refine lv_iconst (v := zI (-1)) hx hb dX1_passOfFill_33 rfl ?_
          refine lv_istore (lv' := [(5, .int (zI (-1))), (4, .int (zI v4_5)), (3, .int (zI v3_5)), (0, .ref (B + 23)), (1, .ref (B + u1)), (2, .ref (B + a))]) hx hb dX1_passOfFill_34 hl (by decide) rfl (fun ls hl => ?_)
          refine lv_iload hx hb dX1_passOfFill_36 (lv_at hl 0 rfl) ?_
          refine lv_iconst (v := zI (-1)) hx hb dX1_passOfFill_38 rfl ?_
          refine z_icmp_eq (tgt := 93) hx hb (by omega) (by omega) dX1_passOfFill_39 (by decide) (fun c7 => ?_) (fun c7 => False.elim (by omega))
          refine z_iinc (v := (v4_5 + 1)) (lv' := [(4, .int (zI (v4_5 + 1))), (5, .int (zI (-1))), (3, .int (zI v3_5)), (0, .ref (B + 23)), (1, .ref (B + u1)), (2, .ref (B + a))]) hx hb dX1_passOfFill_93 hl (k := 1) rfl (by omega) (by decide) rfl (fun ls hl => ?_)
          refine lv_goto (tgt := 5) hx hb dX1_passOfFill_96 (by decide) ?_
          exact ih5 (v4_5 + 1) v3_5 NL5 (by omega) (by omega)    hIL5 hFL5 (by omega) _ _ _ w (lv_sub hl [0, 2, 3, 4, 5] rfl)
        · refine lv_aload_n hx hb dX1_passOfFill_23 rfl (lv_at hl 2 rfl) ?_
          refine lv_aload_n hx hb dX1_passOfFill_24 rfl (lv_at hl 4 rfl) ?_
          refine lv_iload hx hb dX1_passOfFill_25 (lv_at hl 0 rfl) ?_
          obtain ⟨z8, bz8, ez8⟩ := Inv.ld (k := 0) hIL5 (iv_w0 hka) (by have := lt_w hka; omega)
          refine k_Vi F w (As := [.ref (B + a), .int (zI v4_5)]) (rest := []) (a := 23) (kd_lt (a := 23) (show kd 23 = (1, 0, 0) from rfl) (by decide)) (sh_1 rfl _ _) rfl (q_X1_placeToFill (a := a) hka (y := v4_5) (by omega) (nn := z8) (ez8) (by omega)  hIL5) gv_X1_78 hv_X1_placeToFill ⟨(Nat.le_of_ble_eq_true rfl), (Nat.le_of_ble_eq_true rfl)⟩ hl.1 rfl (Nat.le_of_ble_eq_true rfl) ⟨Nat.zero_le _, Nat.zero_le _⟩ dX1_passOfFill_27 (fun r9 N10 H locs hp w => ?_)
          obtain ⟨z11, rfl, bz11, xz11, hMN10⟩ := hp
          rw [hMN10] at w
          refine lv_goto (tgt := 34) hx hb dX1_passOfFill_30 (by decide) ?_
          refine lv_istore (lv' := [(5, .int (zI z11)), (4, .int (zI v4_5)), (3, .int (zI v3_5)), (0, .ref (B + 23)), (1, .ref (B + u1)), (2, .ref (B + a))]) hx hb dX1_passOfFill_34 hl (by decide) rfl (fun ls hl => ?_)
          refine lv_iload hx hb dX1_passOfFill_36 (lv_at hl 0 rfl) ?_
          refine lv_iconst (v := zI (-1)) hx hb dX1_passOfFill_38 rfl ?_
          refine z_icmp_eq (tgt := 93) hx hb (by omega) (by omega) dX1_passOfFill_39 (by decide) (fun c12 => False.elim (by omega)) (fun c12 => ?_)
          refine lv_aload_n hx hb dX1_passOfFill_42 rfl (lv_at hl 5 rfl) ?_
          refine f_9_0 F w (a := a) hka tb_62 dX1_passOfFill_43 ?_
          refine r_val (v := zI z8) (ez8) ?_
          refine lv_bipush (v := zI 12) hx hb dX1_passOfFill_46 (by decide) ?_
          refine z_icmp_ge (tgt := 93) hx hb (by omega) (by omega) dX1_passOfFill_48 (by decide) (fun c13 => ?_) (fun c13 => ?_)
          · refine z_iinc (v := (v4_5 + 1)) (lv' := [(4, .int (zI (v4_5 + 1))), (5, .int (zI z11)), (3, .int (zI v3_5)), (0, .ref (B + 23)), (1, .ref (B + u1)), (2, .ref (B + a))]) hx hb dX1_passOfFill_93 hl (k := 1) rfl (by omega) (by decide) rfl (fun ls hl => ?_)
            refine lv_goto (tgt := 5) hx hb dX1_passOfFill_96 (by decide) ?_
            exact ih5 (v4_5 + 1) v3_5 NL5 (by omega) (by omega)    hIL5 hFL5 (by omega) _ _ _ w (lv_sub hl [0, 2, 3, 4, 5] rfl)
          · refine lv_aload_n hx hb dX1_passOfFill_51 rfl (lv_at hl 5 rfl) ?_
            refine lv_iload hx hb dX1_passOfFill_52 (lv_at hl 0 rfl) ?_
            refine lv_iload hx hb dX1_passOfFill_54 (lv_at hl 0 rfl) ?_
            refine lv_iload hx hb dX1_passOfFill_56 (lv_at hl 1 rfl) ?_
            refine k_Vi F w (As := [.int (zI z11), .int (zI z11), .int (zI v4_5)]) (rest := []) (a := a) (kd_lt (a := a) hka (by decide)) (sh_9 hka _ _) rfl (q_X9_crossesNone (a := a) hka (t := z11) (by omega) (u := z11) (by omega) (y := v4_5) (by omega)  hIL5) gv_X1_82 hv_X9_crossesNone ⟨(Nat.le_of_ble_eq_true rfl), (Nat.le_of_ble_eq_true rfl)⟩ hl.1 rfl (Nat.le_of_ble_eq_true rfl) ⟨Nat.zero_le _, Nat.zero_le _⟩ dX1_passOfFill_58 (fun r14 N15 H locs hp w => ?_)
            obtain ⟨z16, rfl, bz16, hMN15⟩ := hp
            rw [hMN15] at w
            refine z_if_eq (tgt := 93) hx hb (by omega) dX1_passOfFill_61 (by decide) (fun c17 => ?_) (fun c17 => ?_)
            · refine z_iinc (v := (v4_5 + 1)) (lv' := [(4, .int (zI (v4_5 + 1))), (5, .int (zI z11)), (3, .int (zI v3_5)), (0, .ref (B + 23)), (1, .ref (B + u1)), (2, .ref (B + a))]) hx hb dX1_passOfFill_93 hl (k := 1) rfl (by omega) (by decide) rfl (fun ls hl => ?_)
              refine lv_goto (tgt := 5) hx hb dX1_passOfFill_96 (by decide) ?_
              exact ih5 (v4_5 + 1) v3_5 NL5 (by omega) (by omega)    hIL5 hFL5 (by omega) _ _ _ w (lv_sub hl [0, 2, 3, 4, 5] rfl)
            · refine lv_aload_n hx hb dX1_passOfFill_64 rfl (lv_at hl 5 rfl) ?_
              refine lv_iload hx hb dX1_passOfFill_65 (lv_at hl 0 rfl) ?_
              refine lv_aload_n hx hb dX1_passOfFill_67 rfl (lv_at hl 4 rfl) ?_
              refine f_4_0 F w (a := u1) hku1 tb_79 dX1_passOfFill_68 ?_
              refine lv_iconst (v := zI 2) hx hb dX1_passOfFill_71 rfl ?_
              refine g_iald F w (a := (u1 + 1)) (iv_u hku1).2.2 (j := 2) ⟨by decide, by decide⟩ (by omega) dX1_passOfFill_72 ?_
              obtain ⟨z18, bz18, ez18⟩ := Inv.ld (k := 2) hIL5 (iv_up hku1 _) (by have := lt_u hku1; omega)
              refine r_val ez18 ?_
              refine k_Vv F w (As := [.int (zI z11), .int (zI z18)]) (rest := []) (a := a) (kd_lt (a := a) hka (by decide)) (sh_9 hka _ _) rfl (q_X9_insertTone (a := a) hka (t := z11) (by omega) (x := z18) (by omega)  hIL5) gv_X1_86 hv_X9_insertTone ⟨(Nat.le_of_ble_eq_true rfl), (Nat.le_of_ble_eq_true rfl)⟩ hl.1 rfl (Nat.le_of_ble_eq_true rfl) ⟨Nat.zero_le _, Nat.zero_le _⟩ dX1_passOfFill_73 (fun N20 H locs hp w => ?_)
              obtain ⟨hIN20, hFN20⟩ := hp
              have hGN20 := Fr.tr hFL5 hFN20 (S := (fun b9 k9 => b9 = (a + 1) ∨ b9 = (a + 2) ∨ b9 = a)) (fun b k h => by first | omega | (dsimp only at h ⊢; omega))
              refine lv_aload_n hx hb dX1_passOfFill_76 rfl (lv_at hl 5 rfl) ?_
              refine f_9_5 F w (a := a) hka tb_78 dX1_passOfFill_77 ?_
              refine lv_iload hx hb dX1_passOfFill_80 (lv_at hl 0 rfl) ?_
              refine lv_dup2_11 hx hb dX1_passOfFill_82 rfl rfl ?_
              refine g_iald F w (a := (a + 2)) (kd_w2 hka) (j := (Int.toNat z11)) (ix_z (by omega) (by omega)) (by omega) dX1_passOfFill_83 ?_
              obtain ⟨z22, bz22, ez22⟩ := Inv.ld (k := (Int.toNat z11)) hIN20 (iv_wl hka _) (by have := lt_w hka; omega)
              refine r_val ez22 ?_
              refine lv_iconst (v := zI 1) hx hb dX1_passOfFill_84 rfl ?_
              refine lv_iload hx hb dX1_passOfFill_85 (lv_at hl 1 rfl) ?_
              obtain ⟨z23, bz23, x0z23, ez23⟩ := shl_ex 1 v4_5
              refine lv_ishl hx hb dX1_passOfFill_87 ?_
              refine r_val ez23 ?_
              obtain ⟨z24, bz24, x0z24, ez24⟩ := or_ex z22 z23
              refine lv_ior hx hb dX1_passOfFill_88 ?_
              refine r_val ez24 ?_
              refine g_iast F w (a := (a + 2)) (kd_w2 hka) (j := (Int.toNat z11)) (ix_z (by omega) (by omega)) (by omega) dX1_passOfFill_89 (fun H locs w => ?_)
              obtain ⟨z25, bz25, x0z25, ez25⟩ := add_ex v3_5 2
              refine lv_iinc (v := zI z25) (lv' := [(3, .int (zI z25)), (5, .int (zI z11)), (4, .int (zI v4_5)), (0, .ref (B + 23)), (1, .ref (B + u1)), (2, .ref (B + a))]) hx hb dX1_passOfFill_90 hl (k := 2) rfl (by first | exact ez25 | (rw [← ez25]; rfl)) (by decide) rfl (fun ls hl => ?_)
              refine z_iinc (v := (v4_5 + 1)) (lv' := [(4, .int (zI (v4_5 + 1))), (3, .int (zI z25)), (5, .int (zI z11)), (0, .ref (B + 23)), (1, .ref (B + u1)), (2, .ref (B + a))]) hx hb dX1_passOfFill_93 hl (k := 2) rfl (by omega) (by decide) rfl (fun ls hl => ?_)
              refine lv_goto (tgt := 5) hx hb dX1_passOfFill_96 (by decide) ?_
              exact ih5 (v4_5 + 1) z25 (st N20 (a + 2) (Int.toNat z11) (zI z24)) (by omega) (by omega)    (Inv.to hIN20 (a := (a + 2)) (k := (Int.toNat z11)) (x := z24) (iv_wl hka _) (by omega)) (Fr.to hGN20 (by first | omega | (dsimp only; first | done | omega))) (by omega) _ _ _ w (lv_sub hl [0, 1, 3, 4, 5] rfl)
  exact lp5 _ 0 0 M (by omega) (by omega) hI hF (Nat.lt_succ_self _) _ _ _ w (lv_sub hl [0, 1, 2, 3, 4] rfl)
set_option maxRecDepth 4000 in
theorem q_X1_spread {l : Launch} {D : va_G} {B : Nat} {cy : Nat → ClassId} {M : Mem} {a : Nat} (hka : kd a = (9, 0, 0)) {t : Int} (ht : 0 ≤ t ∧ t ≤ 11) {x : Int} (hx : 0 ≤ x ∧ x ≤ 1) {x1 : Int} (hx1 : (-2) ≤ x1 ∧ x1 ≤ 99) (hI : Inv M) : Ci l D B cy yX1_spread cX1_spread 10 (some .int) 2 48 [.ref (B + 23), .ref (B + a), .int (zI t), .int (zI x), .int (zI x1)] M (fun r M1 => ∃ z : Int, r = zI z ∧ ((-2147483648) ≤ z ∧ z ≤ 2147483647) ∧ Inv M1 ∧ Fr (fun b9 k9 => b9 = (a + 2)) M1 M) := by
  refine s_anyQ (by decide) (Nat.le_of_ble_eq_true rfl) ?_
  intro p e s m args below meth c ls Q F hr hlocks hQ w hl
  have F : CallFix p m c cX1_spread 10 s args TB RX1 := F
  have hx := F.1
  have hb := F.2.1
  have hl : lv_has ls 10 [(0, .ref (B + 23)), (1, .ref (B + a)), (2, .int (zI t)), (3, .int (zI x)), (4, .int (zI x1))] := hl
  have hF : Fr (fun b9 k9 => b9 = (a + 2)) M M := Fr.rf
  refine lv_iconst (v := zI 0) hx hb dX1_spread_0 rfl ?_
  refine lv_istore (lv' := [(5, .int (zI 0)), (0, .ref (B + 23)), (1, .ref (B + a)), (2, .int (zI t)), (3, .int (zI x)), (4, .int (zI x1))]) hx hb dX1_spread_1 hl (by decide) rfl (fun ls hl => ?_)
  refine lv_iconst (v := zI 0) hx hb dX1_spread_3 rfl ?_
  refine lv_istore (lv' := [(6, .int (zI 0)), (5, .int (zI 0)), (0, .ref (B + 23)), (1, .ref (B + a)), (2, .int (zI t)), (3, .int (zI x)), (4, .int (zI x1))]) hx hb dX1_spread_4 hl (by decide) rfl (fun ls hl => ?_)
  have lp6 : ∀ (f : Nat) (v6_6 : Int) (v5_6 : Int)  (NL6 : Mem), (0 ≤ v6_6 ∧ v6_6 ≤ 144) → ((-2147483648) ≤ v5_6 ∧ v5_6 ≤ 2147483647) → Inv NL6 → Fr (fun b9 k9 => b9 = (a + 2)) NL6 M → (Int.toNat (99 - v6_6) < f) → ∀ (H : Heap) (locs : List Loc) (ls : Array Slot), Wd D B cy s s.heap NL6 H locs → lv_has ls 10 [(6, .int (zI v6_6)), (5, .int (zI v5_6)), (0, .ref (B + 23)), (1, .ref (B + a)), (2, .int (zI t)), (3, .int (zI x)), (4, .int (zI x1))] → W p l e (rmm 2 48) s m args below meth c H locs 0 0 Q (F0 m 6 ls []) := by
    intro f
    induction f with
    | zero => intros; omega
    | succ f ih6 =>
      intro v6_6 v5_6  NL6 iv6_6 iv5_6 hIL6 hFL6 hf6 H locs ls w hl
      refine lv_iload hx hb dX1_spread_6 (lv_at hl 0 rfl) ?_
      refine lv_iload hx hb dX1_spread_8 (lv_at hl 6 rfl) ?_
      refine z_icmp_ge (tgt := 131) hx hb (by omega) (by omega) dX1_spread_10 (by decide) (fun c1 => ?_) (fun c1 => ?_)
      · refine lv_iload hx hb dX1_spread_131 (lv_at hl 1 rfl) ?_
        rw [hQ]
        exact e_i F w hr hlocks ⟨_, rfl, (by omega), hIL6, hFL6⟩ dX1_spread_133
      · refine lv_aload_n hx hb dX1_spread_13 rfl (lv_at hl 3 rfl) ?_
        refine lv_iload_n hx hb dX1_spread_14 rfl (lv_at hl 4 rfl) ?_
        refine k_Vi F w (As := [.int (zI t)]) (rest := []) (a := a) (kd_lt (a := a) hka (by decide)) (sh_9 hka _ _) rfl (q_X9_linesFrom (a := a) hka (t := t) (by omega)  hIL6) gv_X1_56 hv_X9_linesFrom ⟨(Nat.le_of_ble_eq_true rfl), (Nat.le_of_ble_eq_true rfl)⟩ hl.1 rfl (Nat.le_of_ble_eq_true rfl) ⟨Nat.zero_le _, Nat.zero_le _⟩ dX1_spread_15 (fun r2 N3 H locs hp w => ?_)
        obtain ⟨z4, rfl, bz4, hMN3⟩ := hp
        rw [hMN3] at w
        refine z_if_eq (tgt := 131) hx hb (by omega) dX1_spread_18 (by decide) (fun c5 => ?_) (fun c5 => ?_)
        · refine lv_iload hx hb dX1_spread_131 (lv_at hl 1 rfl) ?_
          rw [hQ]
          exact e_i F w hr hlocks ⟨_, rfl, (by omega), hIL6, hFL6⟩ dX1_spread_133
        · refine lv_iload_n hx hb dX1_spread_21 rfl (lv_at hl 5 rfl) ?_
          refine z_if_eq (tgt := 37) hx hb (by omega) dX1_spread_22 (by decide) (fun c6 => ?_) (fun c6 => ?_)
          · refine lv_aload_n hx hb dX1_spread_37 rfl (lv_at hl 3 rfl) ?_
            refine f_9_5 F w (a := a) hka tb_78 dX1_spread_38 ?_
            refine lv_iload_n hx hb dX1_spread_41 rfl (lv_at hl 4 rfl) ?_
            refine g_iald F w (a := (a + 2)) (kd_w2 hka) (j := (Int.toNat t)) (ix_z (by omega) (by omega)) (by omega) dX1_spread_42 ?_
            obtain ⟨z7, bz7, ez7⟩ := Inv.ld (k := (Int.toNat t)) hIL6 (iv_wl hka _) (by have := lt_w hka; omega)
            refine r_val ez7 ?_
            refine k_Ni F w (As := [.int (zI z7)]) (rest := []) (q_highest (x := z7) (by omega) ) gc_X11_highest tb_95 tb_97 (by decide) hs_X11_highest ⟨(Nat.le_of_ble_eq_true rfl), (Nat.le_of_ble_eq_true rfl)⟩ hl.1 rfl (Nat.le_of_ble_eq_true rfl) ⟨Nat.zero_le _, Nat.zero_le _⟩ dX1_spread_43 (fun r8 N9 H locs hp w => ?_)
            obtain ⟨hrz10, hMz10⟩ := hp
            rw [hMz10] at w
            obtain ⟨z10, bz10, xz10, ez10⟩ := hig_ex z7 (by omega)
            refine r_val (hrz10.trans ez10) ?_
            refine lv_istore (lv' := [(7, .int (zI z10)), (6, .int (zI v6_6)), (5, .int (zI v5_6)), (0, .ref (B + 23)), (1, .ref (B + a)), (2, .int (zI t)), (3, .int (zI x)), (4, .int (zI x1))]) hx hb dX1_spread_46 hl (by decide) rfl (fun ls hl => ?_)
            refine lv_iload_n hx hb dX1_spread_48 rfl (lv_at hl 6 rfl) ?_
            refine z_if_eq (tgt := 59) hx hb (by omega) dX1_spread_49 (by decide) (fun c11 => ?_) (fun c11 => False.elim (by omega))
            refine lv_iload hx hb dX1_spread_59 (lv_at hl 0 rfl) ?_
            refine lv_iconst (v := zI 1) hx hb dX1_spread_61 rfl ?_
            refine z_iadd (z := (z10 + 1)) hx hb dX1_spread_62 (by omega) ?_
            refine lv_istore (lv' := [(8, .int (zI (z10 + 1))), (7, .int (zI z10)), (6, .int (zI v6_6)), (5, .int (zI v5_6)), (0, .ref (B + 23)), (1, .ref (B + a)), (2, .int (zI t)), (3, .int (zI x)), (4, .int (zI x1))]) hx hb dX1_spread_63 hl (by decide) rfl (fun ls hl => ?_)
            refine lv_aload_n hx hb dX1_spread_65 rfl (lv_at hl 5 rfl) ?_
            refine lv_iload_n hx hb dX1_spread_66 rfl (lv_at hl 7 rfl) ?_
            refine z_if_eq (tgt := 75) hx hb (by omega) dX1_spread_67 (by decide) (fun c12 => ?_) (fun c12 => False.elim (by omega))
            refine lv_iload hx hb dX1_spread_75 (lv_at hl 0 rfl) ?_
            refine k_Vi F w (As := [.int (zI (z10 + 1))]) (rest := []) (a := a) (kd_lt (a := a) hka (by decide)) (sh_9 hka _ _) rfl (q_X9_hasEdge (a := a) hka (y := (z10 + 1)) (by omega)  hIL6) gv_X1_127 hv_X9_hasEdge ⟨(Nat.le_of_ble_eq_true rfl), (Nat.le_of_ble_eq_true rfl)⟩ hl.1 rfl (Nat.le_of_ble_eq_true rfl) ⟨Nat.zero_le _, Nat.zero_le _⟩ dX1_spread_77 (fun r13 N14 H locs hp w => ?_)
            obtain ⟨z15, rfl, bz15, xz15, hMN14⟩ := hp
            rw [hMN14] at w
            refine lv_istore (lv' := [(9, .int (zI z15)), (8, .int (zI (z10 + 1))), (7, .int (zI z10)), (6, .int (zI v6_6)), (5, .int (zI v5_6)), (0, .ref (B + 23)), (1, .ref (B + a)), (2, .int (zI t)), (3, .int (zI x)), (4, .int (zI x1))]) hx hb dX1_spread_80 hl (by decide) rfl (fun ls hl => ?_)
            refine lv_iload hx hb dX1_spread_82 (lv_at hl 0 rfl) ?_
            refine z_if_ne (tgt := 131) hx hb (by omega) dX1_spread_84 (by decide) (fun c16 => ?_) (fun c16 => ?_)
            · refine lv_iload hx hb dX1_spread_131 (lv_at hl 4 rfl) ?_
              rw [hQ]
              exact e_i F w hr hlocks ⟨_, rfl, (by omega), hIL6, hFL6⟩ dX1_spread_133
            · refine lv_aload_n hx hb dX1_spread_87 rfl (lv_at hl 6 rfl) ?_
              refine lv_iload hx hb dX1_spread_88 (lv_at hl 1 rfl) ?_
              refine k_Vi F w (As := [.int (zI (z10 + 1))]) (rest := []) (a := a) (kd_lt (a := a) hka (by decide)) (sh_9 hka _ _) rfl (q_X9_isBare (a := a) hka (y := (z10 + 1)) (by omega)  hIL6) gv_X1_39 hv_X9_isBare ⟨(Nat.le_of_ble_eq_true rfl), (Nat.le_of_ble_eq_true rfl)⟩ hl.1 rfl (Nat.le_of_ble_eq_true rfl) ⟨Nat.zero_le _, Nat.zero_le _⟩ dX1_spread_90 (fun r17 N18 H locs hp w => ?_)
              obtain ⟨z19, rfl, bz19, xz19, hMN18⟩ := hp
              rw [hMN18] at w
              refine z_if_eq (tgt := 131) hx hb (by omega) dX1_spread_93 (by decide) (fun c20 => ?_) (fun c20 => ?_)
              · refine lv_iload hx hb dX1_spread_131 (lv_at hl 4 rfl) ?_
                rw [hQ]
                exact e_i F w hr hlocks ⟨_, rfl, (by omega), hIL6, hFL6⟩ dX1_spread_133
              · refine lv_aload_n hx hb dX1_spread_96 rfl (lv_at hl 6 rfl) ?_
                refine lv_iload_n hx hb dX1_spread_97 rfl (lv_at hl 7 rfl) ?_
                refine lv_iload hx hb dX1_spread_98 (lv_at hl 1 rfl) ?_
                refine k_Vi F w (As := [.int (zI t), .int (zI (z10 + 1))]) (rest := []) (a := a) (kd_lt (a := a) hka (by decide)) (sh_9 hka _ _) rfl (q_X9_isOpen (a := a) hka (t := t) (by omega) (y := (z10 + 1)) (by omega)  hIL6) gv_X1_60 hv_X9_isOpen ⟨(Nat.le_of_ble_eq_true rfl), (Nat.le_of_ble_eq_true rfl)⟩ hl.1 rfl (Nat.le_of_ble_eq_true rfl) ⟨Nat.zero_le _, Nat.zero_le _⟩ dX1_spread_100 (fun r21 N22 H locs hp w => ?_)
                obtain ⟨z23, rfl, bz23, xz23, hMN22⟩ := hp
                rw [hMN22] at w
                refine z_if_ne (tgt := 109) hx hb (by omega) dX1_spread_103 (by decide) (fun c24 => ?_) (fun c24 => ?_)
                · refine lv_aload_n hx hb dX1_spread_109 rfl (lv_at hl 6 rfl) ?_
                  refine f_9_5 F w (a := a) hka tb_78 dX1_spread_110 ?_
                  refine lv_iload_n hx hb dX1_spread_113 rfl (lv_at hl 7 rfl) ?_
                  refine lv_dup2_11 hx hb dX1_spread_114 rfl rfl ?_
                  refine g_iald F w (a := (a + 2)) (kd_w2 hka) (j := (Int.toNat t)) (ix_z (by omega) (by omega)) (by omega) dX1_spread_115 ?_
                  refine r_val (v := zI z7) (ez7) ?_
                  refine lv_iconst (v := zI 1) hx hb dX1_spread_116 rfl ?_
                  refine lv_iload hx hb dX1_spread_117 (lv_at hl 1 rfl) ?_
                  obtain ⟨z25, bz25, x0z25, ez25⟩ := shl_ex 1 (z10 + 1)
                  refine lv_ishl hx hb dX1_spread_119 ?_
                  refine r_val ez25 ?_
                  obtain ⟨z26, bz26, x0z26, ez26⟩ := or_ex z7 z25
                  refine lv_ior hx hb dX1_spread_120 ?_
                  refine r_val ez26 ?_
                  refine g_iast F w (a := (a + 2)) (kd_w2 hka) (j := (Int.toNat t)) (ix_z (by omega) (by omega)) (by omega) dX1_spread_121 (fun H locs w => ?_)
                  obtain ⟨z27, bz27, x0z27, ez27⟩ := add_ex v5_6 1
                  refine lv_iinc (v := zI z27) (lv' := [(5, .int (zI z27)), (9, .int (zI z15)), (8, .int (zI (z10 + 1))), (7, .int (zI z10)), (6, .int (zI v6_6)), (0, .ref (B + 23)), (1, .ref (B + a)), (2, .int (zI t)), (3, .int (zI x)), (4, .int (zI x1))]) hx hb dX1_spread_122 hl (k := 4) rfl (by first | exact ez27 | (rw [← ez27]; rfl)) (by decide) rfl (fun ls hl => ?_)
                  refine z_iinc (v := (v6_6 + 1)) (lv' := [(6, .int (zI (v6_6 + 1))), (5, .int (zI z27)), (9, .int (zI z15)), (8, .int (zI (z10 + 1))), (7, .int (zI z10)), (0, .ref (B + 23)), (1, .ref (B + a)), (2, .int (zI t)), (3, .int (zI x)), (4, .int (zI x1))]) hx hb dX1_spread_125 hl (k := 4) rfl (by omega) (by decide) rfl (fun ls hl => ?_)
                  refine lv_goto (tgt := 6) hx hb dX1_spread_128 (by decide) ?_
                  exact ih6 (v6_6 + 1) z27 (st NL6 (a + 2) (Int.toNat t) (zI z26)) (by omega) (by omega)    (Inv.to hIL6 (a := (a + 2)) (k := (Int.toNat t)) (x := z26) (iv_wl hka _) (by omega)) (Fr.to hFL6 (by first | omega | (dsimp only; first | done | omega))) (by omega) _ _ _ w (lv_sub hl [0, 1, 5, 6, 7, 8, 9] rfl)
                · refine lv_goto (tgt := 131) hx hb dX1_spread_106 (by decide) ?_
                  refine lv_iload hx hb dX1_spread_131 (lv_at hl 4 rfl) ?_
                  rw [hQ]
                  exact e_i F w hr hlocks ⟨_, rfl, (by omega), hIL6, hFL6⟩ dX1_spread_133
          · refine lv_aload_n hx hb dX1_spread_25 rfl (lv_at hl 3 rfl) ?_
            refine f_9_5 F w (a := a) hka tb_78 dX1_spread_26 ?_
            refine lv_iload_n hx hb dX1_spread_29 rfl (lv_at hl 4 rfl) ?_
            refine g_iald F w (a := (a + 2)) (kd_w2 hka) (j := (Int.toNat t)) (ix_z (by omega) (by omega)) (by omega) dX1_spread_30 ?_
            obtain ⟨z28, bz28, ez28⟩ := Inv.ld (k := (Int.toNat t)) hIL6 (iv_wl hka _) (by have := lt_w hka; omega)
            refine r_val ez28 ?_
            refine k_Ni F w (As := [.int (zI z28)]) (rest := []) (q_lowest (x := z28) (by omega) ) gc_X11_lowest tb_95 tb_96 (by decide) hs_X11_lowest ⟨(Nat.le_of_ble_eq_true rfl), (Nat.le_of_ble_eq_true rfl)⟩ hl.1 rfl (Nat.le_of_ble_eq_true rfl) ⟨Nat.zero_le _, Nat.zero_le _⟩ dX1_spread_31 (fun r29 N30 H locs hp w => ?_)
            obtain ⟨hrz31, hMz31⟩ := hp
            rw [hMz31] at w
            obtain ⟨z31, bz31, xz31, ez31⟩ := low_ex z28 (by omega)
            refine r_val (hrz31.trans ez31) ?_
            refine lv_goto (tgt := 46) hx hb dX1_spread_34 (by decide) ?_
            refine lv_istore (lv' := [(7, .int (zI z31)), (6, .int (zI v6_6)), (5, .int (zI v5_6)), (0, .ref (B + 23)), (1, .ref (B + a)), (2, .int (zI t)), (3, .int (zI x)), (4, .int (zI x1))]) hx hb dX1_spread_46 hl (by decide) rfl (fun ls hl => ?_)
            refine lv_iload_n hx hb dX1_spread_48 rfl (lv_at hl 6 rfl) ?_
            refine z_if_eq (tgt := 59) hx hb (by omega) dX1_spread_49 (by decide) (fun c32 => False.elim (by omega)) (fun c32 => ?_)
            refine lv_iload hx hb dX1_spread_52 (lv_at hl 0 rfl) ?_
            refine lv_iconst (v := zI 1) hx hb dX1_spread_54 rfl ?_
            refine z_isub (z := (z31 - 1)) hx hb dX1_spread_55 (by omega) ?_
            refine lv_goto (tgt := 63) hx hb dX1_spread_56 (by decide) ?_
            refine lv_istore (lv' := [(8, .int (zI (z31 - 1))), (7, .int (zI z31)), (6, .int (zI v6_6)), (5, .int (zI v5_6)), (0, .ref (B + 23)), (1, .ref (B + a)), (2, .int (zI t)), (3, .int (zI x)), (4, .int (zI x1))]) hx hb dX1_spread_63 hl (by decide) rfl (fun ls hl => ?_)
            refine lv_aload_n hx hb dX1_spread_65 rfl (lv_at hl 5 rfl) ?_
            refine lv_iload_n hx hb dX1_spread_66 rfl (lv_at hl 7 rfl) ?_
            refine z_if_eq (tgt := 75) hx hb (by omega) dX1_spread_67 (by decide) (fun c33 => False.elim (by omega)) (fun c33 => ?_)
            refine lv_iload hx hb dX1_spread_70 (lv_at hl 1 rfl) ?_
            refine lv_goto (tgt := 77) hx hb dX1_spread_72 (by decide) ?_
            refine k_Vi F w (As := [.int (zI z31)]) (rest := []) (a := a) (kd_lt (a := a) hka (by decide)) (sh_9 hka _ _) rfl (q_X9_hasEdge (a := a) hka (y := z31) (by omega)  hIL6) gv_X1_127 hv_X9_hasEdge ⟨(Nat.le_of_ble_eq_true rfl), (Nat.le_of_ble_eq_true rfl)⟩ hl.1 rfl (Nat.le_of_ble_eq_true rfl) ⟨Nat.zero_le _, Nat.zero_le _⟩ dX1_spread_77 (fun r34 N35 H locs hp w => ?_)
            obtain ⟨z36, rfl, bz36, xz36, hMN35⟩ := hp
            rw [hMN35] at w
            refine lv_istore (lv' := [(9, .int (zI z36)), (8, .int (zI (z31 - 1))), (7, .int (zI z31)), (6, .int (zI v6_6)), (5, .int (zI v5_6)), (0, .ref (B + 23)), (1, .ref (B + a)), (2, .int (zI t)), (3, .int (zI x)), (4, .int (zI x1))]) hx hb dX1_spread_80 hl (by decide) rfl (fun ls hl => ?_)
            refine lv_iload hx hb dX1_spread_82 (lv_at hl 0 rfl) ?_
            refine z_if_ne (tgt := 131) hx hb (by omega) dX1_spread_84 (by decide) (fun c37 => ?_) (fun c37 => ?_)
            · refine lv_iload hx hb dX1_spread_131 (lv_at hl 4 rfl) ?_
              rw [hQ]
              exact e_i F w hr hlocks ⟨_, rfl, (by omega), hIL6, hFL6⟩ dX1_spread_133
            · refine lv_aload_n hx hb dX1_spread_87 rfl (lv_at hl 6 rfl) ?_
              refine lv_iload hx hb dX1_spread_88 (lv_at hl 1 rfl) ?_
              refine k_Vi F w (As := [.int (zI (z31 - 1))]) (rest := []) (a := a) (kd_lt (a := a) hka (by decide)) (sh_9 hka _ _) rfl (q_X9_isBare (a := a) hka (y := (z31 - 1)) (by omega)  hIL6) gv_X1_39 hv_X9_isBare ⟨(Nat.le_of_ble_eq_true rfl), (Nat.le_of_ble_eq_true rfl)⟩ hl.1 rfl (Nat.le_of_ble_eq_true rfl) ⟨Nat.zero_le _, Nat.zero_le _⟩ dX1_spread_90 (fun r38 N39 H locs hp w => ?_)
              obtain ⟨z40, rfl, bz40, xz40, hMN39⟩ := hp
              rw [hMN39] at w
              refine z_if_eq (tgt := 131) hx hb (by omega) dX1_spread_93 (by decide) (fun c41 => ?_) (fun c41 => ?_)
              · refine lv_iload hx hb dX1_spread_131 (lv_at hl 4 rfl) ?_
                rw [hQ]
                exact e_i F w hr hlocks ⟨_, rfl, (by omega), hIL6, hFL6⟩ dX1_spread_133
              · refine lv_aload_n hx hb dX1_spread_96 rfl (lv_at hl 6 rfl) ?_
                refine lv_iload_n hx hb dX1_spread_97 rfl (lv_at hl 7 rfl) ?_
                refine lv_iload hx hb dX1_spread_98 (lv_at hl 1 rfl) ?_
                refine k_Vi F w (As := [.int (zI t), .int (zI (z31 - 1))]) (rest := []) (a := a) (kd_lt (a := a) hka (by decide)) (sh_9 hka _ _) rfl (q_X9_isOpen (a := a) hka (t := t) (by omega) (y := (z31 - 1)) (by omega)  hIL6) gv_X1_60 hv_X9_isOpen ⟨(Nat.le_of_ble_eq_true rfl), (Nat.le_of_ble_eq_true rfl)⟩ hl.1 rfl (Nat.le_of_ble_eq_true rfl) ⟨Nat.zero_le _, Nat.zero_le _⟩ dX1_spread_100 (fun r42 N43 H locs hp w => ?_)
                obtain ⟨z44, rfl, bz44, xz44, hMN43⟩ := hp
                rw [hMN43] at w
                refine z_if_ne (tgt := 109) hx hb (by omega) dX1_spread_103 (by decide) (fun c45 => ?_) (fun c45 => ?_)
                · refine lv_aload_n hx hb dX1_spread_109 rfl (lv_at hl 6 rfl) ?_
                  refine f_9_5 F w (a := a) hka tb_78 dX1_spread_110 ?_
                  refine lv_iload_n hx hb dX1_spread_113 rfl (lv_at hl 7 rfl) ?_
                  refine lv_dup2_11 hx hb dX1_spread_114 rfl rfl ?_
                  refine g_iald F w (a := (a + 2)) (kd_w2 hka) (j := (Int.toNat t)) (ix_z (by omega) (by omega)) (by omega) dX1_spread_115 ?_
                  refine r_val (v := zI z28) (ez28) ?_
                  refine lv_iconst (v := zI 1) hx hb dX1_spread_116 rfl ?_
                  refine lv_iload hx hb dX1_spread_117 (lv_at hl 1 rfl) ?_
                  obtain ⟨z46, bz46, x0z46, ez46⟩ := shl_ex 1 (z31 - 1)
                  refine lv_ishl hx hb dX1_spread_119 ?_
                  refine r_val ez46 ?_
                  obtain ⟨z47, bz47, x0z47, ez47⟩ := or_ex z28 z46
                  refine lv_ior hx hb dX1_spread_120 ?_
                  refine r_val ez47 ?_
                  refine g_iast F w (a := (a + 2)) (kd_w2 hka) (j := (Int.toNat t)) (ix_z (by omega) (by omega)) (by omega) dX1_spread_121 (fun H locs w => ?_)
                  obtain ⟨z48, bz48, x0z48, ez48⟩ := add_ex v5_6 1
                  refine lv_iinc (v := zI z48) (lv' := [(5, .int (zI z48)), (9, .int (zI z36)), (8, .int (zI (z31 - 1))), (7, .int (zI z31)), (6, .int (zI v6_6)), (0, .ref (B + 23)), (1, .ref (B + a)), (2, .int (zI t)), (3, .int (zI x)), (4, .int (zI x1))]) hx hb dX1_spread_122 hl (k := 4) rfl (by first | exact ez48 | (rw [← ez48]; rfl)) (by decide) rfl (fun ls hl => ?_)
                  refine z_iinc (v := (v6_6 + 1)) (lv' := [(6, .int (zI (v6_6 + 1))), (5, .int (zI z48)), (9, .int (zI z36)), (8, .int (zI (z31 - 1))), (7, .int (zI z31)), (0, .ref (B + 23)), (1, .ref (B + a)), (2, .int (zI t)), (3, .int (zI x)), (4, .int (zI x1))]) hx hb dX1_spread_125 hl (k := 4) rfl (by omega) (by decide) rfl (fun ls hl => ?_)
                  refine lv_goto (tgt := 6) hx hb dX1_spread_128 (by decide) ?_
                  exact ih6 (v6_6 + 1) z48 (st NL6 (a + 2) (Int.toNat t) (zI z47)) (by omega) (by omega)    (Inv.to hIL6 (a := (a + 2)) (k := (Int.toNat t)) (x := z47) (iv_wl hka _) (by omega)) (Fr.to hFL6 (by first | omega | (dsimp only; first | done | omega))) (by omega) _ _ _ w (lv_sub hl [0, 1, 5, 6, 7, 8, 9] rfl)
                · refine lv_goto (tgt := 131) hx hb dX1_spread_106 (by decide) ?_
                  refine lv_iload hx hb dX1_spread_131 (lv_at hl 4 rfl) ?_
                  rw [hQ]
                  exact e_i F w hr hlocks ⟨_, rfl, (by omega), hIL6, hFL6⟩ dX1_spread_133
  exact lp6 _ 0 0 M (by omega) (by omega) hI hF (Nat.lt_succ_self _) _ _ _ w (lv_sub hl [0, 1, 2, 3, 4, 5, 6] rfl)
theorem dX1_leave_0 : decode cX1_leave 0 = .ok (.aload_n 1, 1) := wdX1_leave_0
theorem dX1_leave_1 : decode cX1_leave 1 = .ok (.iload_n 2, 1) := wdX1_leave_1
theorem dX1_leave_2 : decode cX1_leave 2 = .ok (.invokevirtual 56, 3) := wdX1_leave_2
theorem dX1_leave_5 : decode cX1_leave 5 = .ok (.istore 4, 2) := wdX1_leave_5
theorem dX1_leave_7 : decode cX1_leave 7 = .ok (.iconst 1, 1) := wdX1_leave_7
theorem dX1_leave_8 : decode cX1_leave 8 = .ok (.iconst 0, 1) := wdX1_leave_8
theorem dX1_leave_9 : decode cX1_leave 9 = .ok (.iload_n 3, 1) := wdX1_leave_9
theorem dX1_leave_10 : decode cX1_leave 10 = .ok (.ifCond .eq 11, 3) := wdX1_leave_10
theorem dX1_leave_21 : decode cX1_leave 21 = .ok (.iload 4, 2) := wdX1_leave_21
theorem dX1_leave_23 : decode cX1_leave 23 = .ok (.invokestatic 72, 3) := wdX1_leave_23
theorem dX1_leave_26 : decode cX1_leave 26 = .ok (.invokestatic 130, 3) := wdX1_leave_26
theorem tb_132 : Cond.methodLink "ToneLines$Doer" 130 yJ9_max_7cf53 ∈ TB := wtb_37
theorem dX1_leave_29 : decode cX1_leave 29 = .ok (.ishl, 1) := wdX1_leave_29
theorem dX1_leave_30 : decode cX1_leave 30 = .ok (.istore 5, 2) := wdX1_leave_30
theorem dX1_leave_32 : decode cX1_leave 32 = .ok (.iload 4, 2) := wdX1_leave_32
theorem dX1_leave_34 : decode cX1_leave 34 = .ok (.iload 5, 2) := wdX1_leave_34
theorem dX1_leave_36 : decode cX1_leave 36 = .ok (.iconst (-1), 1) := wdX1_leave_36
theorem dX1_leave_37 : decode cX1_leave 37 = .ok (.ixor, 1) := wdX1_leave_37
theorem dX1_leave_38 : decode cX1_leave 38 = .ok (.iand, 1) := wdX1_leave_38
theorem dX1_leave_39 : decode cX1_leave 39 = .ok (.istore 6, 2) := wdX1_leave_39
theorem dX1_leave_41 : decode cX1_leave 41 = .ok (.iload 6, 2) := wdX1_leave_41
theorem dX1_leave_43 : decode cX1_leave 43 = .ok (.ifCond .ne 5, 3) := wdX1_leave_43
theorem dX1_leave_48 : decode cX1_leave 48 = .ok (.aload_n 1, 1) := wdX1_leave_48
theorem dX1_leave_49 : decode cX1_leave 49 = .ok (.getfield 50, 3) := wdX1_leave_49
theorem dX1_leave_52 : decode cX1_leave 52 = .ok (.iload_n 2, 1) := wdX1_leave_52
theorem dX1_leave_53 : decode cX1_leave 53 = .ok (.dup2, 1) := wdX1_leave_53
theorem dX1_leave_54 : decode cX1_leave 54 = .ok (.iaload, 1) := wdX1_leave_54
theorem dX1_leave_55 : decode cX1_leave 55 = .ok (.iconst 1, 1) := wdX1_leave_55
theorem dX1_leave_56 : decode cX1_leave 56 = .ok (.iload_n 3, 1) := wdX1_leave_56
theorem dX1_leave_57 : decode cX1_leave 57 = .ok (.ifCond .eq 11, 3) := wdX1_leave_57
theorem dX1_leave_68 : decode cX1_leave 68 = .ok (.iload 6, 2) := wdX1_leave_68
theorem dX1_leave_70 : decode cX1_leave 70 = .ok (.invokestatic 72, 3) := wdX1_leave_70
theorem dX1_leave_73 : decode cX1_leave 73 = .ok (.ishl, 1) := wdX1_leave_73
theorem dX1_leave_74 : decode cX1_leave 74 = .ok (.iconst (-1), 1) := wdX1_leave_74
theorem dX1_leave_75 : decode cX1_leave 75 = .ok (.ixor, 1) := wdX1_leave_75
theorem dX1_leave_76 : decode cX1_leave 76 = .ok (.iand, 1) := wdX1_leave_76
theorem dX1_leave_77 : decode cX1_leave 77 = .ok (.iastore, 1) := wdX1_leave_77
theorem dX1_leave_78 : decode cX1_leave 78 = .ok (.iconst 1, 1) := wdX1_leave_78
theorem dX1_leave_79 : decode cX1_leave 79 = .ok (.ireturn, 1) := wdX1_leave_79
theorem dX1_leave_46 : decode cX1_leave 46 = .ok (.iconst 0, 1) := wdX1_leave_46
theorem dX1_leave_47 : decode cX1_leave 47 = .ok (.ireturn, 1) := wdX1_leave_47
theorem dX1_leave_13 : decode cX1_leave 13 = .ok (.iload 4, 2) := wdX1_leave_13
theorem dX1_leave_15 : decode cX1_leave 15 = .ok (.invokestatic 75, 3) := wdX1_leave_15
theorem dX1_leave_18 : decode cX1_leave 18 = .ok (.goto 8, 3) := wdX1_leave_18
theorem dX1_leave_60 : decode cX1_leave 60 = .ok (.iload 6, 2) := wdX1_leave_60
theorem dX1_leave_62 : decode cX1_leave 62 = .ok (.invokestatic 75, 3) := wdX1_leave_62
theorem dX1_leave_65 : decode cX1_leave 65 = .ok (.goto 8, 3) := wdX1_leave_65
set_option maxRecDepth 4000 in
theorem q_X1_leave {l : Launch} {D : va_G} {B : Nat} {cy : Nat → ClassId} {M : Mem} {a : Nat} (hka : kd a = (9, 0, 0)) {t : Int} (ht : 0 ≤ t ∧ t ≤ 11) {x : Int} (hx : 0 ≤ x ∧ x ≤ 1) (hI : Inv M) : Ci l D B cy yX1_leave cX1_leave 7 (some .int) 2 42 [.ref (B + 23), .ref (B + a), .int (zI t), .int (zI x)] M (fun r M1 => ∃ z : Int, r = zI z ∧ (0 ≤ z ∧ z ≤ 1) ∧ Inv M1 ∧ Fr (fun b9 k9 => b9 = (a + 2)) M1 M) := by
  refine s_anyQ (by decide) (Nat.le_of_ble_eq_true rfl) ?_
  intro p e s m args below meth c ls Q F hr hlocks hQ w hl
  have F : CallFix p m c cX1_leave 7 s args TB RX1 := F
  have hx := F.1
  have hb := F.2.1
  have hl : lv_has ls 7 [(0, .ref (B + 23)), (1, .ref (B + a)), (2, .int (zI t)), (3, .int (zI x))] := hl
  have hF : Fr (fun b9 k9 => b9 = (a + 2)) M M := Fr.rf
  refine lv_aload_n hx hb dX1_leave_0 rfl (lv_at hl 1 rfl) ?_
  refine lv_iload_n hx hb dX1_leave_1 rfl (lv_at hl 2 rfl) ?_
  refine k_Vi F w (As := [.int (zI t)]) (rest := []) (a := a) (kd_lt (a := a) hka (by decide)) (sh_9 hka _ _) rfl (q_X9_linesFrom (a := a) hka (t := t) (by omega)  hI) gv_X1_56 hv_X9_linesFrom ⟨(Nat.le_of_ble_eq_true rfl), (Nat.le_of_ble_eq_true rfl)⟩ hl.1 rfl (Nat.le_of_ble_eq_true rfl) ⟨Nat.zero_le _, Nat.zero_le _⟩ dX1_leave_2 (fun r1 N2 H locs hp w => ?_)
  obtain ⟨z3, rfl, bz3, hMN2⟩ := hp
  rw [hMN2] at w
  refine lv_istore (lv' := [(4, .int (zI z3)), (0, .ref (B + 23)), (1, .ref (B + a)), (2, .int (zI t)), (3, .int (zI x))]) hx hb dX1_leave_5 hl (by decide) rfl (fun ls hl => ?_)
  refine lv_iconst (v := zI 1) hx hb dX1_leave_7 rfl ?_
  refine lv_iconst (v := zI 0) hx hb dX1_leave_8 rfl ?_
  refine lv_iload_n hx hb dX1_leave_9 rfl (lv_at hl 4 rfl) ?_
  refine z_if_eq (tgt := 21) hx hb (by omega) dX1_leave_10 (by decide) (fun c4 => ?_) (fun c4 => ?_)
  · refine lv_iload hx hb dX1_leave_21 (lv_at hl 0 rfl) ?_
    refine k_Ni F w (As := [.int (zI z3)]) (rest := [.int (zI 0), .int (zI 1)]) (q_highest (x := z3) (by omega) ) gc_X11_highest tb_95 tb_97 (by decide) hs_X11_highest ⟨(Nat.le_of_ble_eq_true rfl), (Nat.le_of_ble_eq_true rfl)⟩ hl.1 rfl (Nat.le_of_ble_eq_true rfl) ⟨Nat.zero_le _, Nat.zero_le _⟩ dX1_leave_23 (fun r5 N6 H locs hp w => ?_)
    obtain ⟨hrz7, hMz7⟩ := hp
    rw [hMz7] at w
    obtain ⟨z7, bz7, xz7, ez7⟩ := hig_ex z3 (by omega)
    refine r_val (hrz7.trans ez7) ?_
    obtain ⟨z8, bz8, ez8⟩ := max_ex 0 z7 (by omega) (by omega)
    refine g_max F hl.1 tb_132 tb_51 tb_52 tq_max (Nat.le_of_ble_eq_true rfl) (Nat.le_of_ble_eq_true rfl) (Nat.zero_le _) (Nat.zero_le _) (v := zI z8) ez8 dX1_leave_26 ?_
    obtain ⟨z9, bz9, x0z9, ez9⟩ := shl_ex 1 z8
    refine lv_ishl hx hb dX1_leave_29 ?_
    refine r_val ez9 ?_
    refine lv_istore (lv' := [(5, .int (zI z9)), (4, .int (zI z3)), (0, .ref (B + 23)), (1, .ref (B + a)), (2, .int (zI t)), (3, .int (zI x))]) hx hb dX1_leave_30 hl (by decide) rfl (fun ls hl => ?_)
    refine lv_iload hx hb dX1_leave_32 (lv_at hl 1 rfl) ?_
    refine lv_iload hx hb dX1_leave_34 (lv_at hl 0 rfl) ?_
    refine lv_iconst (v := zI (-1)) hx hb dX1_leave_36 rfl ?_
    refine lv_ixor hx hb dX1_leave_37 ?_
    refine r_val (not_ex z9) ?_
    obtain ⟨z10, bz10, x0z10, x1z10, ez10⟩ := and_ex z3 (-z9 - 1) (by omega) (by omega)
    refine lv_iand hx hb dX1_leave_38 ?_
    refine r_val ez10 ?_
    refine lv_istore (lv' := [(6, .int (zI z10)), (5, .int (zI z9)), (4, .int (zI z3)), (0, .ref (B + 23)), (1, .ref (B + a)), (2, .int (zI t)), (3, .int (zI x))]) hx hb dX1_leave_39 hl (by decide) rfl (fun ls hl => ?_)
    refine lv_iload hx hb dX1_leave_41 (lv_at hl 0 rfl) ?_
    refine z_if_ne (tgt := 48) hx hb (by omega) dX1_leave_43 (by decide) (fun c11 => ?_) (fun c11 => ?_)
    · refine lv_aload_n hx hb dX1_leave_48 rfl (lv_at hl 4 rfl) ?_
      refine f_9_5 F w (a := a) hka tb_78 dX1_leave_49 ?_
      refine lv_iload_n hx hb dX1_leave_52 rfl (lv_at hl 5 rfl) ?_
      refine lv_dup2_11 hx hb dX1_leave_53 rfl rfl ?_
      refine g_iald F w (a := (a + 2)) (kd_w2 hka) (j := (Int.toNat t)) (ix_z (by omega) (by omega)) (by omega) dX1_leave_54 ?_
      obtain ⟨z12, bz12, ez12⟩ := Inv.ld (k := (Int.toNat t)) hI (iv_wl hka _) (by have := lt_w hka; omega)
      refine r_val ez12 ?_
      refine lv_iconst (v := zI 1) hx hb dX1_leave_55 rfl ?_
      refine lv_iload_n hx hb dX1_leave_56 rfl (lv_at hl 6 rfl) ?_
      refine z_if_eq (tgt := 68) hx hb (by omega) dX1_leave_57 (by decide) (fun c13 => ?_) (fun c13 => False.elim (by omega))
      refine lv_iload hx hb dX1_leave_68 (lv_at hl 0 rfl) ?_
      refine k_Ni F w (As := [.int (zI z10)]) (rest := [.int (zI 1), .int (zI z12), .int (zI t), .ref (B + (a + 2))]) (q_highest (x := z10) (by omega) ) gc_X11_highest tb_95 tb_97 (by decide) hs_X11_highest ⟨(Nat.le_of_ble_eq_true rfl), (Nat.le_of_ble_eq_true rfl)⟩ hl.1 rfl (Nat.le_of_ble_eq_true rfl) ⟨Nat.zero_le _, Nat.zero_le _⟩ dX1_leave_70 (fun r14 N15 H locs hp w => ?_)
      obtain ⟨hrz16, hMz16⟩ := hp
      rw [hMz16] at w
      obtain ⟨z16, bz16, xz16, ez16⟩ := hig_ex z10 (by omega)
      refine r_val (hrz16.trans ez16) ?_
      obtain ⟨z17, bz17, x0z17, ez17⟩ := shl_ex 1 z16
      refine lv_ishl hx hb dX1_leave_73 ?_
      refine r_val ez17 ?_
      refine lv_iconst (v := zI (-1)) hx hb dX1_leave_74 rfl ?_
      refine lv_ixor hx hb dX1_leave_75 ?_
      refine r_val (not_ex z17) ?_
      obtain ⟨z18, bz18, x0z18, x1z18, ez18⟩ := and_ex z12 (-z17 - 1) (by omega) (by omega)
      refine lv_iand hx hb dX1_leave_76 ?_
      refine r_val ez18 ?_
      refine g_iast F w (a := (a + 2)) (kd_w2 hka) (j := (Int.toNat t)) (ix_z (by omega) (by omega)) (by omega) dX1_leave_77 (fun H locs w => ?_)
      refine lv_iconst (v := zI 1) hx hb dX1_leave_78 rfl ?_
      rw [hQ]
      exact e_i F w hr hlocks ⟨_, rfl, (by omega), (Inv.to hI (a := (a + 2)) (k := (Int.toNat t)) (x := z18) (iv_wl hka _) (by omega)), (Fr.to hF (by first | omega | (dsimp only; first | done | omega)))⟩ dX1_leave_79
    · refine lv_iconst (v := zI 0) hx hb dX1_leave_46 rfl ?_
      rw [hQ]
      exact e_i F w hr hlocks ⟨_, rfl, (by omega), hI, hF⟩ dX1_leave_47
  · refine lv_iload hx hb dX1_leave_13 (lv_at hl 0 rfl) ?_
    refine k_Ni F w (As := [.int (zI z3)]) (rest := [.int (zI 0), .int (zI 1)]) (q_lowest (x := z3) (by omega) ) gc_X11_lowest tb_95 tb_96 (by decide) hs_X11_lowest ⟨(Nat.le_of_ble_eq_true rfl), (Nat.le_of_ble_eq_true rfl)⟩ hl.1 rfl (Nat.le_of_ble_eq_true rfl) ⟨Nat.zero_le _, Nat.zero_le _⟩ dX1_leave_15 (fun r19 N20 H locs hp w => ?_)
    obtain ⟨hrz21, hMz21⟩ := hp
    rw [hMz21] at w
    obtain ⟨z21, bz21, xz21, ez21⟩ := low_ex z3 (by omega)
    refine r_val (hrz21.trans ez21) ?_
    refine lv_goto (tgt := 26) hx hb dX1_leave_18 (by decide) ?_
    obtain ⟨z22, bz22, ez22⟩ := max_ex 0 z21 (by omega) (by omega)
    refine g_max F hl.1 tb_132 tb_51 tb_52 tq_max (Nat.le_of_ble_eq_true rfl) (Nat.le_of_ble_eq_true rfl) (Nat.zero_le _) (Nat.zero_le _) (v := zI z22) ez22 dX1_leave_26 ?_
    obtain ⟨z23, bz23, x0z23, ez23⟩ := shl_ex 1 z22
    refine lv_ishl hx hb dX1_leave_29 ?_
    refine r_val ez23 ?_
    refine lv_istore (lv' := [(5, .int (zI z23)), (4, .int (zI z3)), (0, .ref (B + 23)), (1, .ref (B + a)), (2, .int (zI t)), (3, .int (zI x))]) hx hb dX1_leave_30 hl (by decide) rfl (fun ls hl => ?_)
    refine lv_iload hx hb dX1_leave_32 (lv_at hl 1 rfl) ?_
    refine lv_iload hx hb dX1_leave_34 (lv_at hl 0 rfl) ?_
    refine lv_iconst (v := zI (-1)) hx hb dX1_leave_36 rfl ?_
    refine lv_ixor hx hb dX1_leave_37 ?_
    refine r_val (not_ex z23) ?_
    obtain ⟨z24, bz24, x0z24, x1z24, ez24⟩ := and_ex z3 (-z23 - 1) (by omega) (by omega)
    refine lv_iand hx hb dX1_leave_38 ?_
    refine r_val ez24 ?_
    refine lv_istore (lv' := [(6, .int (zI z24)), (5, .int (zI z23)), (4, .int (zI z3)), (0, .ref (B + 23)), (1, .ref (B + a)), (2, .int (zI t)), (3, .int (zI x))]) hx hb dX1_leave_39 hl (by decide) rfl (fun ls hl => ?_)
    refine lv_iload hx hb dX1_leave_41 (lv_at hl 0 rfl) ?_
    refine z_if_ne (tgt := 48) hx hb (by omega) dX1_leave_43 (by decide) (fun c25 => ?_) (fun c25 => ?_)
    · refine lv_aload_n hx hb dX1_leave_48 rfl (lv_at hl 4 rfl) ?_
      refine f_9_5 F w (a := a) hka tb_78 dX1_leave_49 ?_
      refine lv_iload_n hx hb dX1_leave_52 rfl (lv_at hl 5 rfl) ?_
      refine lv_dup2_11 hx hb dX1_leave_53 rfl rfl ?_
      refine g_iald F w (a := (a + 2)) (kd_w2 hka) (j := (Int.toNat t)) (ix_z (by omega) (by omega)) (by omega) dX1_leave_54 ?_
      obtain ⟨z26, bz26, ez26⟩ := Inv.ld (k := (Int.toNat t)) hI (iv_wl hka _) (by have := lt_w hka; omega)
      refine r_val ez26 ?_
      refine lv_iconst (v := zI 1) hx hb dX1_leave_55 rfl ?_
      refine lv_iload_n hx hb dX1_leave_56 rfl (lv_at hl 6 rfl) ?_
      refine z_if_eq (tgt := 68) hx hb (by omega) dX1_leave_57 (by decide) (fun c27 => False.elim (by omega)) (fun c27 => ?_)
      refine lv_iload hx hb dX1_leave_60 (lv_at hl 0 rfl) ?_
      refine k_Ni F w (As := [.int (zI z24)]) (rest := [.int (zI 1), .int (zI z26), .int (zI t), .ref (B + (a + 2))]) (q_lowest (x := z24) (by omega) ) gc_X11_lowest tb_95 tb_96 (by decide) hs_X11_lowest ⟨(Nat.le_of_ble_eq_true rfl), (Nat.le_of_ble_eq_true rfl)⟩ hl.1 rfl (Nat.le_of_ble_eq_true rfl) ⟨Nat.zero_le _, Nat.zero_le _⟩ dX1_leave_62 (fun r28 N29 H locs hp w => ?_)
      obtain ⟨hrz30, hMz30⟩ := hp
      rw [hMz30] at w
      obtain ⟨z30, bz30, xz30, ez30⟩ := low_ex z24 (by omega)
      refine r_val (hrz30.trans ez30) ?_
      refine lv_goto (tgt := 73) hx hb dX1_leave_65 (by decide) ?_
      obtain ⟨z31, bz31, x0z31, ez31⟩ := shl_ex 1 z30
      refine lv_ishl hx hb dX1_leave_73 ?_
      refine r_val ez31 ?_
      refine lv_iconst (v := zI (-1)) hx hb dX1_leave_74 rfl ?_
      refine lv_ixor hx hb dX1_leave_75 ?_
      refine r_val (not_ex z31) ?_
      obtain ⟨z32, bz32, x0z32, x1z32, ez32⟩ := and_ex z26 (-z31 - 1) (by omega) (by omega)
      refine lv_iand hx hb dX1_leave_76 ?_
      refine r_val ez32 ?_
      refine g_iast F w (a := (a + 2)) (kd_w2 hka) (j := (Int.toNat t)) (ix_z (by omega) (by omega)) (by omega) dX1_leave_77 (fun H locs w => ?_)
      refine lv_iconst (v := zI 1) hx hb dX1_leave_78 rfl ?_
      rw [hQ]
      exact e_i F w hr hlocks ⟨_, rfl, (by omega), (Inv.to hI (a := (a + 2)) (k := (Int.toNat t)) (x := z32) (iv_wl hka _) (by omega)), (Fr.to hF (by first | omega | (dsimp only; first | done | omega)))⟩ dX1_leave_79
    · refine lv_iconst (v := zI 0) hx hb dX1_leave_46 rfl ?_
      rw [hQ]
      exact e_i F w hr hlocks ⟨_, rfl, (by omega), hI, hF⟩ dX1_leave_47
set_option maxRecDepth 4000 in
theorem q_X1_cutOff {l : Launch} {D : va_G} {B : Nat} {cy : Nat → ClassId} {M : Mem} {a : Nat} (hka : kd a = (9, 0, 0)) {t : Int} (ht : 0 ≤ t ∧ t ≤ 11) {x : Int} (hx : 0 ≤ x ∧ x ≤ 1) (hI : Inv M) : Ci l D B cy yX1_cutOff cX1_cutOff 5 (some .int) 2 42 [.ref (B + 23), .ref (B + a), .int (zI t), .int (zI x)] M (fun r M1 => ∃ z : Int, r = zI z ∧ (0 ≤ z ∧ z ≤ 1) ∧ Inv M1 ∧ Fr (fun b9 k9 => b9 = (a + 2)) M1 M) := by
  refine s_anyQ (by decide) (Nat.le_of_ble_eq_true rfl) ?_
  intro p e s m args below meth c ls Q F hr hlocks hQ w hl
  have F : CallFix p m c cX1_cutOff 5 s args TB RX1 := F
  have hx := F.1
  have hb := F.2.1
  have hl : lv_has ls 5 [(0, .ref (B + 23)), (1, .ref (B + a)), (2, .int (zI t)), (3, .int (zI x))] := hl
  have hF : Fr (fun b9 k9 => b9 = (a + 2)) M M := Fr.rf
  refine lv_aload_n hx hb dX1_cutOff_0 rfl (lv_at hl 1 rfl) ?_
  refine lv_iload_n hx hb dX1_cutOff_1 rfl (lv_at hl 2 rfl) ?_
  refine k_Vi F w (As := [.int (zI t)]) (rest := []) (a := a) (kd_lt (a := a) hka (by decide)) (sh_9 hka _ _) rfl (q_X9_linesFrom (a := a) hka (t := t) (by omega)  hI) gv_X1_56 hv_X9_linesFrom ⟨(Nat.le_of_ble_eq_true rfl), (Nat.le_of_ble_eq_true rfl)⟩ hl.1 rfl (Nat.le_of_ble_eq_true rfl) ⟨Nat.zero_le _, Nat.zero_le _⟩ dX1_cutOff_2 (fun r1 N2 H locs hp w => ?_)
  obtain ⟨z3, rfl, bz3, hMN2⟩ := hp
  rw [hMN2] at w
  refine lv_istore (lv' := [(4, .int (zI z3)), (0, .ref (B + 23)), (1, .ref (B + a)), (2, .int (zI t)), (3, .int (zI x))]) hx hb dX1_cutOff_5 hl (by decide) rfl (fun ls hl => ?_)
  refine lv_iload hx hb dX1_cutOff_7 (lv_at hl 0 rfl) ?_
  refine z_if_ne (tgt := 14) hx hb (by omega) dX1_cutOff_9 (by decide) (fun c4 => ?_) (fun c4 => ?_)
  · refine lv_aload_n hx hb dX1_cutOff_14 rfl (lv_at hl 2 rfl) ?_
    refine f_9_5 F w (a := a) hka tb_78 dX1_cutOff_15 ?_
    refine lv_iload_n hx hb dX1_cutOff_18 rfl (lv_at hl 3 rfl) ?_
    refine lv_dup2_11 hx hb dX1_cutOff_19 rfl rfl ?_
    refine g_iald F w (a := (a + 2)) (kd_w2 hka) (j := (Int.toNat t)) (ix_z (by omega) (by omega)) (by omega) dX1_cutOff_20 ?_
    obtain ⟨z5, bz5, ez5⟩ := Inv.ld (k := (Int.toNat t)) hI (iv_wl hka _) (by have := lt_w hka; omega)
    refine r_val ez5 ?_
    refine lv_iconst (v := zI 1) hx hb dX1_cutOff_21 rfl ?_
    refine lv_iload_n hx hb dX1_cutOff_22 rfl (lv_at hl 4 rfl) ?_
    refine z_if_eq (tgt := 34) hx hb (by omega) dX1_cutOff_23 (by decide) (fun c6 => ?_) (fun c6 => ?_)
    · refine lv_iload hx hb dX1_cutOff_34 (lv_at hl 0 rfl) ?_
      refine k_Ni F w (As := [.int (zI z3)]) (rest := [.int (zI 1), .int (zI z5), .int (zI t), .ref (B + (a + 2))]) (q_lowest (x := z3) (by omega) ) gc_X11_lowest tb_95 tb_96 (by decide) hs_X11_lowest ⟨(Nat.le_of_ble_eq_true rfl), (Nat.le_of_ble_eq_true rfl)⟩ hl.1 rfl (Nat.le_of_ble_eq_true rfl) ⟨Nat.zero_le _, Nat.zero_le _⟩ dX1_cutOff_36 (fun r7 N8 H locs hp w => ?_)
      obtain ⟨hrz9, hMz9⟩ := hp
      rw [hMz9] at w
      obtain ⟨z9, bz9, xz9, ez9⟩ := low_ex z3 (by omega)
      refine r_val (hrz9.trans ez9) ?_
      obtain ⟨z10, bz10, x0z10, ez10⟩ := shl_ex 1 z9
      refine lv_ishl hx hb dX1_cutOff_39 ?_
      refine r_val ez10 ?_
      refine lv_iconst (v := zI (-1)) hx hb dX1_cutOff_40 rfl ?_
      refine lv_ixor hx hb dX1_cutOff_41 ?_
      refine r_val (not_ex z10) ?_
      obtain ⟨z11, bz11, x0z11, x1z11, ez11⟩ := and_ex z5 (-z10 - 1) (by omega) (by omega)
      refine lv_iand hx hb dX1_cutOff_42 ?_
      refine r_val ez11 ?_
      refine g_iast F w (a := (a + 2)) (kd_w2 hka) (j := (Int.toNat t)) (ix_z (by omega) (by omega)) (by omega) dX1_cutOff_43 (fun H locs w => ?_)
      refine lv_iconst (v := zI 1) hx hb dX1_cutOff_44 rfl ?_
      rw [hQ]
      exact e_i F w hr hlocks ⟨_, rfl, (by omega), (Inv.to hI (a := (a + 2)) (k := (Int.toNat t)) (x := z11) (iv_wl hka _) (by omega)), (Fr.to hF (by first | omega | (dsimp only; first | done | omega)))⟩ dX1_cutOff_45
    · refine lv_iload hx hb dX1_cutOff_26 (lv_at hl 0 rfl) ?_
      refine k_Ni F w (As := [.int (zI z3)]) (rest := [.int (zI 1), .int (zI z5), .int (zI t), .ref (B + (a + 2))]) (q_highest (x := z3) (by omega) ) gc_X11_highest tb_95 tb_97 (by decide) hs_X11_highest ⟨(Nat.le_of_ble_eq_true rfl), (Nat.le_of_ble_eq_true rfl)⟩ hl.1 rfl (Nat.le_of_ble_eq_true rfl) ⟨Nat.zero_le _, Nat.zero_le _⟩ dX1_cutOff_28 (fun r12 N13 H locs hp w => ?_)
      obtain ⟨hrz14, hMz14⟩ := hp
      rw [hMz14] at w
      obtain ⟨z14, bz14, xz14, ez14⟩ := hig_ex z3 (by omega)
      refine r_val (hrz14.trans ez14) ?_
      refine lv_goto (tgt := 39) hx hb dX1_cutOff_31 (by decide) ?_
      obtain ⟨z15, bz15, x0z15, ez15⟩ := shl_ex 1 z14
      refine lv_ishl hx hb dX1_cutOff_39 ?_
      refine r_val ez15 ?_
      refine lv_iconst (v := zI (-1)) hx hb dX1_cutOff_40 rfl ?_
      refine lv_ixor hx hb dX1_cutOff_41 ?_
      refine r_val (not_ex z15) ?_
      obtain ⟨z16, bz16, x0z16, x1z16, ez16⟩ := and_ex z5 (-z15 - 1) (by omega) (by omega)
      refine lv_iand hx hb dX1_cutOff_42 ?_
      refine r_val ez16 ?_
      refine g_iast F w (a := (a + 2)) (kd_w2 hka) (j := (Int.toNat t)) (ix_z (by omega) (by omega)) (by omega) dX1_cutOff_43 (fun H locs w => ?_)
      refine lv_iconst (v := zI 1) hx hb dX1_cutOff_44 rfl ?_
      rw [hQ]
      exact e_i F w hr hlocks ⟨_, rfl, (by omega), (Inv.to hI (a := (a + 2)) (k := (Int.toNat t)) (x := z16) (iv_wl hka _) (by omega)), (Fr.to hF (by first | omega | (dsimp only; first | done | omega)))⟩ dX1_cutOff_45
  · refine lv_iconst (v := zI 0) hx hb dX1_cutOff_12 rfl ?_
    rw [hQ]
    exact e_i F w hr hlocks ⟨_, rfl, (by omega), hI, hF⟩ dX1_cutOff_13
theorem dX1_dock_0 : decode cX1_dock 0 = .ok (.aload_n 1, 1) := wdX1_dock_0
theorem dX1_dock_1 : decode cX1_dock 1 = .ok (.iload_n 2, 1) := wdX1_dock_1
theorem dX1_dock_2 : decode cX1_dock 2 = .ok (.invokevirtual 47, 3) := wdX1_dock_2
theorem dX1_dock_5 : decode cX1_dock 5 = .ok (.ifCond .eq 12, 3) := wdX1_dock_5
theorem dX1_dock_17 : decode cX1_dock 17 = .ok (.iconst 0, 1) := wdX1_dock_17
theorem dX1_dock_18 : decode cX1_dock 18 = .ok (.ireturn, 1) := wdX1_dock_18
theorem dX1_dock_8 : decode cX1_dock 8 = .ok (.aload_n 1, 1) := wdX1_dock_8
theorem dX1_dock_9 : decode cX1_dock 9 = .ok (.getfield 50, 3) := wdX1_dock_9
theorem dX1_dock_12 : decode cX1_dock 12 = .ok (.iload_n 2, 1) := wdX1_dock_12
theorem dX1_dock_13 : decode cX1_dock 13 = .ok (.iaload, 1) := wdX1_dock_13
theorem dX1_dock_14 : decode cX1_dock 14 = .ok (.ifCond .eq 5, 3) := wdX1_dock_14
theorem dX1_dock_19 : decode cX1_dock 19 = .ok (.iload_n 3, 1) := wdX1_dock_19
theorem dX1_dock_20 : decode cX1_dock 20 = .ok (.ifCond .eq 7, 3) := wdX1_dock_20
theorem dX1_dock_27 : decode cX1_dock 27 = .ok (.iconst 1, 1) := wdX1_dock_27
theorem dX1_dock_28 : decode cX1_dock 28 = .ok (.istore 4, 2) := wdX1_dock_28
theorem dX1_dock_30 : decode cX1_dock 30 = .ok (.iload_n 2, 1) := wdX1_dock_30
theorem dX1_dock_31 : decode cX1_dock 31 = .ok (.iload 4, 2) := wdX1_dock_31
theorem dX1_dock_33 : decode cX1_dock 33 = .ok (.iadd, 1) := wdX1_dock_33
theorem dX1_dock_34 : decode cX1_dock 34 = .ok (.istore 5, 2) := wdX1_dock_34
theorem dX1_dock_36 : decode cX1_dock 36 = .ok (.aload_n 1, 1) := wdX1_dock_36
theorem dX1_dock_37 : decode cX1_dock 37 = .ok (.iload 5, 2) := wdX1_dock_37
theorem dX1_dock_39 : decode cX1_dock 39 = .ok (.invokevirtual 47, 3) := wdX1_dock_39
theorem dX1_dock_42 : decode cX1_dock 42 = .ok (.ifCond .eq 22, 3) := wdX1_dock_42
theorem dX1_dock_64 : decode cX1_dock 64 = .ok (.iload_n 3, 1) := wdX1_dock_64
theorem dX1_dock_65 : decode cX1_dock 65 = .ok (.ifCond .eq 15, 3) := wdX1_dock_65
theorem dX1_dock_80 : decode cX1_dock 80 = .ok (.aload_n 1, 1) := wdX1_dock_80
theorem dX1_dock_81 : decode cX1_dock 81 = .ok (.iload 5, 2) := wdX1_dock_81
theorem dX1_dock_83 : decode cX1_dock 83 = .ok (.invokevirtual 56, 3) := wdX1_dock_83
theorem dX1_dock_86 : decode cX1_dock 86 = .ok (.invokestatic 75, 3) := wdX1_dock_86
theorem dX1_dock_89 : decode cX1_dock 89 = .ok (.istore 6, 2) := wdX1_dock_89
theorem dX1_dock_91 : decode cX1_dock 91 = .ok (.aload_n 1, 1) := wdX1_dock_91
theorem dX1_dock_92 : decode cX1_dock 92 = .ok (.iload_n 2, 1) := wdX1_dock_92
theorem dX1_dock_93 : decode cX1_dock 93 = .ok (.iload 6, 2) := wdX1_dock_93
theorem dX1_dock_95 : decode cX1_dock 95 = .ok (.invokevirtual 60, 3) := wdX1_dock_95
theorem dX1_dock_98 : decode cX1_dock 98 = .ok (.ifCond .ne 5, 3) := wdX1_dock_98
theorem dX1_dock_103 : decode cX1_dock 103 = .ok (.aload_n 1, 1) := wdX1_dock_103
theorem dX1_dock_104 : decode cX1_dock 104 = .ok (.getfield 50, 3) := wdX1_dock_104
theorem dX1_dock_107 : decode cX1_dock 107 = .ok (.iload_n 2, 1) := wdX1_dock_107
theorem dX1_dock_108 : decode cX1_dock 108 = .ok (.dup2, 1) := wdX1_dock_108
theorem dX1_dock_109 : decode cX1_dock 109 = .ok (.iaload, 1) := wdX1_dock_109
theorem dX1_dock_110 : decode cX1_dock 110 = .ok (.iconst 1, 1) := wdX1_dock_110
theorem dX1_dock_111 : decode cX1_dock 111 = .ok (.iload 6, 2) := wdX1_dock_111
theorem dX1_dock_113 : decode cX1_dock 113 = .ok (.ishl, 1) := wdX1_dock_113
theorem dX1_dock_114 : decode cX1_dock 114 = .ok (.ior, 1) := wdX1_dock_114
theorem dX1_dock_115 : decode cX1_dock 115 = .ok (.iastore, 1) := wdX1_dock_115
theorem dX1_dock_116 : decode cX1_dock 116 = .ok (.iconst 1, 1) := wdX1_dock_116
theorem dX1_dock_117 : decode cX1_dock 117 = .ok (.ireturn, 1) := wdX1_dock_117
theorem dX1_dock_101 : decode cX1_dock 101 = .ok (.iconst 0, 1) := wdX1_dock_101
theorem dX1_dock_102 : decode cX1_dock 102 = .ok (.ireturn, 1) := wdX1_dock_102
theorem dX1_dock_45 : decode cX1_dock 45 = .ok (.aload_n 1, 1) := wdX1_dock_45
theorem dX1_dock_46 : decode cX1_dock 46 = .ok (.iload 5, 2) := wdX1_dock_46
theorem dX1_dock_48 : decode cX1_dock 48 = .ok (.invokevirtual 56, 3) := wdX1_dock_48
theorem dX1_dock_51 : decode cX1_dock 51 = .ok (.ifCond .ne 13, 3) := wdX1_dock_51
theorem dX1_dock_54 : decode cX1_dock 54 = .ok (.iload 5, 2) := wdX1_dock_54
theorem dX1_dock_56 : decode cX1_dock 56 = .ok (.iload 4, 2) := wdX1_dock_56
theorem dX1_dock_58 : decode cX1_dock 58 = .ok (.iadd, 1) := wdX1_dock_58
theorem dX1_dock_59 : decode cX1_dock 59 = .ok (.istore 5, 2) := wdX1_dock_59
theorem dX1_dock_61 : decode cX1_dock 61 = .ok (.goto (-25), 3) := wdX1_dock_61
theorem dX1_dock_23 : decode cX1_dock 23 = .ok (.iconst (-1), 1) := wdX1_dock_23
theorem dX1_dock_24 : decode cX1_dock 24 = .ok (.goto 4, 3) := wdX1_dock_24
theorem dX1_dock_68 : decode cX1_dock 68 = .ok (.aload_n 1, 1) := wdX1_dock_68
theorem dX1_dock_69 : decode cX1_dock 69 = .ok (.iload 5, 2) := wdX1_dock_69
theorem dX1_dock_71 : decode cX1_dock 71 = .ok (.invokevirtual 56, 3) := wdX1_dock_71
theorem dX1_dock_74 : decode cX1_dock 74 = .ok (.invokestatic 72, 3) := wdX1_dock_74
theorem dX1_dock_77 : decode cX1_dock 77 = .ok (.goto 12, 3) := wdX1_dock_77
set_option maxHeartbeats 4000000 in
set_option maxRecDepth 4000 in
theorem q_X1_dock {l : Launch} {D : va_G} {B : Nat} {cy : Nat → ClassId} {M : Mem} {a : Nat} (hka : kd a = (9, 0, 0)) {t : Int} (ht : 0 ≤ t ∧ t ≤ 11) {x : Int} (hx : 0 ≤ x ∧ x ≤ 1) (hI : Inv M) : Ci l D B cy yX1_dock cX1_dock 7 (some .int) 2 48 [.ref (B + 23), .ref (B + a), .int (zI t), .int (zI x)] M (fun r M1 => ∃ z : Int, r = zI z ∧ (0 ≤ z ∧ z ≤ 1) ∧ Inv M1 ∧ Fr (fun b9 k9 => b9 = (a + 2)) M1 M) := by
  refine s_anyQ (by decide) (Nat.le_of_ble_eq_true rfl) ?_
  intro p e s m args below meth c ls Q F hr hlocks hQ w hl
  have F : CallFix p m c cX1_dock 7 s args TB RX1 := F
  have hx := F.1
  have hb := F.2.1
  have hl : lv_has ls 7 [(0, .ref (B + 23)), (1, .ref (B + a)), (2, .int (zI t)), (3, .int (zI x))] := hl
  have hF : Fr (fun b9 k9 => b9 = (a + 2)) M M := Fr.rf
  refine lv_aload_n hx hb dX1_dock_0 rfl (lv_at hl 1 rfl) ?_
  refine lv_iload_n hx hb dX1_dock_1 rfl (lv_at hl 2 rfl) ?_
  obtain ⟨z1, bz1, ez1⟩ := Inv.ld (k := 0) hI (iv_w0 hka) (by have := lt_w hka; omega)
  refine k_Vi F w (As := [.int (zI t)]) (rest := []) (a := a) (kd_lt (a := a) hka (by decide)) (sh_9 hka _ _) rfl (q_X9_hasTone (a := a) hka (t := t) (by omega) (nn := z1) (ez1) (by omega)  hI) gv_X1_47 hv_X9_hasTone ⟨(Nat.le_of_ble_eq_true rfl), (Nat.le_of_ble_eq_true rfl)⟩ hl.1 rfl (Nat.le_of_ble_eq_true rfl) ⟨Nat.zero_le _, Nat.zero_le _⟩ dX1_dock_2 (fun r2 N3 H locs hp w => ?_)
  obtain ⟨z4, rfl, bz4, xz4, hMN3⟩ := hp
  rw [hMN3] at w
  refine z_if_eq (tgt := 17) hx hb (by omega) dX1_dock_5 (by decide) (fun c5 => ?_) (fun c5 => ?_)
  · refine lv_iconst (v := zI 0) hx hb dX1_dock_17 rfl ?_
    rw [hQ]
    exact e_i F w hr hlocks ⟨_, rfl, (by omega), hI, hF⟩ dX1_dock_18
  · refine lv_aload_n hx hb dX1_dock_8 rfl (lv_at hl 1 rfl) ?_
    refine f_9_5 F w (a := a) hka tb_78 dX1_dock_9 ?_
    refine lv_iload_n hx hb dX1_dock_12 rfl (lv_at hl 2 rfl) ?_
    refine g_iald F w (a := (a + 2)) (kd_w2 hka) (j := (Int.toNat t)) (ix_z (by omega) (by omega)) (by omega) dX1_dock_13 ?_
    obtain ⟨z6, bz6, ez6⟩ := Inv.ld (k := (Int.toNat t)) hI (iv_wl hka _) (by have := lt_w hka; omega)
    refine r_val ez6 ?_
    refine z_if_eq (tgt := 19) hx hb (by omega) dX1_dock_14 (by decide) (fun c7 => ?_) (fun c7 => ?_)
    · refine lv_iload_n hx hb dX1_dock_19 rfl (lv_at hl 3 rfl) ?_
      refine z_if_eq (tgt := 27) hx hb (by omega) dX1_dock_20 (by decide) (fun c8 => ?_) (fun c8 => ?_)
      · refine lv_iconst (v := zI 1) hx hb dX1_dock_27 rfl ?_
        refine lv_istore (lv' := [(4, .int (zI 1)), (0, .ref (B + 23)), (1, .ref (B + a)), (2, .int (zI t)), (3, .int (zI x))]) hx hb dX1_dock_28 hl (by decide) rfl (fun ls hl => ?_)
        refine lv_iload_n hx hb dX1_dock_30 rfl (lv_at hl 3 rfl) ?_
        refine lv_iload hx hb dX1_dock_31 (lv_at hl 0 rfl) ?_
        refine z_iadd (z := (t + 1)) hx hb dX1_dock_33 (by omega) ?_
        refine lv_istore (lv' := [(5, .int (zI (t + 1))), (4, .int (zI 1)), (0, .ref (B + 23)), (1, .ref (B + a)), (2, .int (zI t)), (3, .int (zI x))]) hx hb dX1_dock_34 hl (by decide) rfl (fun ls hl => ?_)
        have lp36 : ∀ (f : Nat) (v5_36 : Int), (1 ≤ v5_36 ∧ v5_36 ≤ 12) → (Int.toNat (12 - v5_36) < f) → ∀ (H : Heap) (locs : List Loc) (ls : Array Slot), Wd D B cy s s.heap M H locs → lv_has ls 7 [(5, .int (zI v5_36)), (4, .int (zI 1)), (0, .ref (B + 23)), (1, .ref (B + a)), (2, .int (zI t)), (3, .int (zI x))] → W p l e (rmm 2 48) s m args below meth c H locs 0 0 Q (F0 m 36 ls []) := by
          intro f
          induction f with
          | zero => intros; omega
          | succ f ih36 =>
            intro v5_36  iv5_36 hf36 H locs ls w hl
            refine lv_aload_n hx hb dX1_dock_36 rfl (lv_at hl 3 rfl) ?_
            refine lv_iload hx hb dX1_dock_37 (lv_at hl 0 rfl) ?_
            refine k_Vi F w (As := [.int (zI v5_36)]) (rest := []) (a := a) (kd_lt (a := a) hka (by decide)) (sh_9 hka _ _) rfl (q_X9_hasTone (a := a) hka (t := v5_36) (by omega) (nn := z1) (ez1) (by omega)  hI) gv_X1_47 hv_X9_hasTone ⟨(Nat.le_of_ble_eq_true rfl), (Nat.le_of_ble_eq_true rfl)⟩ hl.1 rfl (Nat.le_of_ble_eq_true rfl) ⟨Nat.zero_le _, Nat.zero_le _⟩ dX1_dock_39 (fun r9 N10 H locs hp w => ?_)
            obtain ⟨z11, rfl, bz11, xz11, hMN10⟩ := hp
            rw [hMN10] at w
            refine z_if_eq (tgt := 64) hx hb (by omega) dX1_dock_42 (by decide) (fun c12 => ?_) (fun c12 => ?_)
            · refine lv_iload_n hx hb dX1_dock_64 rfl (lv_at hl 5 rfl) ?_
              refine z_if_eq (tgt := 80) hx hb (by omega) dX1_dock_65 (by decide) (fun c13 => ?_) (fun c13 => False.elim (by omega))
              refine lv_aload_n hx hb dX1_dock_80 rfl (lv_at hl 3 rfl) ?_
              refine lv_iload hx hb dX1_dock_81 (lv_at hl 0 rfl) ?_
              refine k_Vi F w (As := [.int (zI v5_36)]) (rest := []) (a := a) (kd_lt (a := a) hka (by decide)) (sh_9 hka _ _) rfl (q_X9_linesFrom (a := a) hka (t := v5_36) (by omega)  hI) gv_X1_56 hv_X9_linesFrom ⟨(Nat.le_of_ble_eq_true rfl), (Nat.le_of_ble_eq_true rfl)⟩ hl.1 rfl (Nat.le_of_ble_eq_true rfl) ⟨Nat.zero_le _, Nat.zero_le _⟩ dX1_dock_83 (fun r14 N15 H locs hp w => ?_)
              obtain ⟨z16, rfl, bz16, hMN15⟩ := hp
              rw [hMN15] at w
              refine k_Ni F w (As := [.int (zI z16)]) (rest := []) (q_lowest (x := z16) (by omega) ) gc_X11_lowest tb_95 tb_96 (by decide) hs_X11_lowest ⟨(Nat.le_of_ble_eq_true rfl), (Nat.le_of_ble_eq_true rfl)⟩ hl.1 rfl (Nat.le_of_ble_eq_true rfl) ⟨Nat.zero_le _, Nat.zero_le _⟩ dX1_dock_86 (fun r17 N18 H locs hp w => ?_)
              obtain ⟨hrz19, hMz19⟩ := hp
              rw [hMz19] at w
              obtain ⟨z19, bz19, xz19, ez19⟩ := low_ex z16 (by omega)
              refine r_val (hrz19.trans ez19) ?_
              refine lv_istore (lv' := [(6, .int (zI z19)), (5, .int (zI v5_36)), (4, .int (zI 1)), (0, .ref (B + 23)), (1, .ref (B + a)), (2, .int (zI t)), (3, .int (zI x))]) hx hb dX1_dock_89 hl (by decide) rfl (fun ls hl => ?_)
              refine lv_aload_n hx hb dX1_dock_91 rfl (lv_at hl 4 rfl) ?_
              refine lv_iload_n hx hb dX1_dock_92 rfl (lv_at hl 5 rfl) ?_
              refine lv_iload hx hb dX1_dock_93 (lv_at hl 0 rfl) ?_
              refine k_Vi F w (As := [.int (zI t), .int (zI z19)]) (rest := []) (a := a) (kd_lt (a := a) hka (by decide)) (sh_9 hka _ _) rfl (q_X9_isOpen (a := a) hka (t := t) (by omega) (y := z19) (by omega)  hI) gv_X1_60 hv_X9_isOpen ⟨(Nat.le_of_ble_eq_true rfl), (Nat.le_of_ble_eq_true rfl)⟩ hl.1 rfl (Nat.le_of_ble_eq_true rfl) ⟨Nat.zero_le _, Nat.zero_le _⟩ dX1_dock_95 (fun r20 N21 H locs hp w => ?_)
              obtain ⟨z22, rfl, bz22, xz22, hMN21⟩ := hp
              rw [hMN21] at w
              refine z_if_ne (tgt := 103) hx hb (by omega) dX1_dock_98 (by decide) (fun c23 => ?_) (fun c23 => ?_)
              · refine lv_aload_n hx hb dX1_dock_103 rfl (lv_at hl 4 rfl) ?_
                refine f_9_5 F w (a := a) hka tb_78 dX1_dock_104 ?_
                refine lv_iload_n hx hb dX1_dock_107 rfl (lv_at hl 5 rfl) ?_
                refine lv_dup2_11 hx hb dX1_dock_108 rfl rfl ?_
                refine g_iald F w (a := (a + 2)) (kd_w2 hka) (j := (Int.toNat t)) (ix_z (by omega) (by omega)) (by omega) dX1_dock_109 ?_
                refine r_val (v := zI z6) (ez6) ?_
                refine lv_iconst (v := zI 1) hx hb dX1_dock_110 rfl ?_
                refine lv_iload hx hb dX1_dock_111 (lv_at hl 0 rfl) ?_
                obtain ⟨z24, bz24, x0z24, ez24⟩ := shl_ex 1 z19
                refine lv_ishl hx hb dX1_dock_113 ?_
                refine r_val ez24 ?_
                obtain ⟨z25, bz25, x0z25, ez25⟩ := or_ex z6 z24
                refine lv_ior hx hb dX1_dock_114 ?_
                refine r_val ez25 ?_
                refine g_iast F w (a := (a + 2)) (kd_w2 hka) (j := (Int.toNat t)) (ix_z (by omega) (by omega)) (by omega) dX1_dock_115 (fun H locs w => ?_)
                refine lv_iconst (v := zI 1) hx hb dX1_dock_116 rfl ?_
                rw [hQ]
                exact e_i F w hr hlocks ⟨_, rfl, (by omega), (Inv.to hI (a := (a + 2)) (k := (Int.toNat t)) (x := z25) (iv_wl hka _) (by omega)), (Fr.to hF (by first | omega | (dsimp only; first | done | omega)))⟩ dX1_dock_117
              · refine lv_iconst (v := zI 0) hx hb dX1_dock_101 rfl ?_
                rw [hQ]
                exact e_i F w hr hlocks ⟨_, rfl, (by omega), hI, hF⟩ dX1_dock_102
            · refine lv_aload_n hx hb dX1_dock_45 rfl (lv_at hl 3 rfl) ?_
              refine lv_iload hx hb dX1_dock_46 (lv_at hl 0 rfl) ?_
              refine k_Vi F w (As := [.int (zI v5_36)]) (rest := []) (a := a) (kd_lt (a := a) hka (by decide)) (sh_9 hka _ _) rfl (q_X9_linesFrom (a := a) hka (t := v5_36) (by omega)  hI) gv_X1_56 hv_X9_linesFrom ⟨(Nat.le_of_ble_eq_true rfl), (Nat.le_of_ble_eq_true rfl)⟩ hl.1 rfl (Nat.le_of_ble_eq_true rfl) ⟨Nat.zero_le _, Nat.zero_le _⟩ dX1_dock_48 (fun r26 N27 H locs hp w => ?_)
              obtain ⟨z28, rfl, bz28, hMN27⟩ := hp
              rw [hMN27] at w
              refine z_if_ne (tgt := 64) hx hb (by omega) dX1_dock_51 (by decide) (fun c29 => ?_) (fun c29 => ?_)
              · refine lv_iload_n hx hb dX1_dock_64 rfl (lv_at hl 5 rfl) ?_
                refine z_if_eq (tgt := 80) hx hb (by omega) dX1_dock_65 (by decide) (fun c30 => ?_) (fun c30 => False.elim (by omega))
                refine lv_aload_n hx hb dX1_dock_80 rfl (lv_at hl 3 rfl) ?_
                refine lv_iload hx hb dX1_dock_81 (lv_at hl 0 rfl) ?_
                refine k_Vi F w (As := [.int (zI v5_36)]) (rest := []) (a := a) (kd_lt (a := a) hka (by decide)) (sh_9 hka _ _) rfl (q_X9_linesFrom (a := a) hka (t := v5_36) (by omega)  hI) gv_X1_56 hv_X9_linesFrom ⟨(Nat.le_of_ble_eq_true rfl), (Nat.le_of_ble_eq_true rfl)⟩ hl.1 rfl (Nat.le_of_ble_eq_true rfl) ⟨Nat.zero_le _, Nat.zero_le _⟩ dX1_dock_83 (fun r31 N32 H locs hp w => ?_)
                obtain ⟨z33, rfl, bz33, hMN32⟩ := hp
                rw [hMN32] at w
                refine k_Ni F w (As := [.int (zI z33)]) (rest := []) (q_lowest (x := z33) (by omega) ) gc_X11_lowest tb_95 tb_96 (by decide) hs_X11_lowest ⟨(Nat.le_of_ble_eq_true rfl), (Nat.le_of_ble_eq_true rfl)⟩ hl.1 rfl (Nat.le_of_ble_eq_true rfl) ⟨Nat.zero_le _, Nat.zero_le _⟩ dX1_dock_86 (fun r34 N35 H locs hp w => ?_)
                obtain ⟨hrz36, hMz36⟩ := hp
                rw [hMz36] at w
                obtain ⟨z36, bz36, xz36, ez36⟩ := low_ex z33 (by omega)
                refine r_val (hrz36.trans ez36) ?_
                refine lv_istore (lv' := [(6, .int (zI z36)), (5, .int (zI v5_36)), (4, .int (zI 1)), (0, .ref (B + 23)), (1, .ref (B + a)), (2, .int (zI t)), (3, .int (zI x))]) hx hb dX1_dock_89 hl (by decide) rfl (fun ls hl => ?_)
                refine lv_aload_n hx hb dX1_dock_91 rfl (lv_at hl 4 rfl) ?_
                refine lv_iload_n hx hb dX1_dock_92 rfl (lv_at hl 5 rfl) ?_
                refine lv_iload hx hb dX1_dock_93 (lv_at hl 0 rfl) ?_
                refine k_Vi F w (As := [.int (zI t), .int (zI z36)]) (rest := []) (a := a) (kd_lt (a := a) hka (by decide)) (sh_9 hka _ _) rfl (q_X9_isOpen (a := a) hka (t := t) (by omega) (y := z36) (by omega)  hI) gv_X1_60 hv_X9_isOpen ⟨(Nat.le_of_ble_eq_true rfl), (Nat.le_of_ble_eq_true rfl)⟩ hl.1 rfl (Nat.le_of_ble_eq_true rfl) ⟨Nat.zero_le _, Nat.zero_le _⟩ dX1_dock_95 (fun r37 N38 H locs hp w => ?_)
                obtain ⟨z39, rfl, bz39, xz39, hMN38⟩ := hp
                rw [hMN38] at w
                refine z_if_ne (tgt := 103) hx hb (by omega) dX1_dock_98 (by decide) (fun c40 => ?_) (fun c40 => ?_)
                · refine lv_aload_n hx hb dX1_dock_103 rfl (lv_at hl 4 rfl) ?_
                  refine f_9_5 F w (a := a) hka tb_78 dX1_dock_104 ?_
                  refine lv_iload_n hx hb dX1_dock_107 rfl (lv_at hl 5 rfl) ?_
                  refine lv_dup2_11 hx hb dX1_dock_108 rfl rfl ?_
                  refine g_iald F w (a := (a + 2)) (kd_w2 hka) (j := (Int.toNat t)) (ix_z (by omega) (by omega)) (by omega) dX1_dock_109 ?_
                  refine r_val (v := zI z6) (ez6) ?_
                  refine lv_iconst (v := zI 1) hx hb dX1_dock_110 rfl ?_
                  refine lv_iload hx hb dX1_dock_111 (lv_at hl 0 rfl) ?_
                  obtain ⟨z41, bz41, x0z41, ez41⟩ := shl_ex 1 z36
                  refine lv_ishl hx hb dX1_dock_113 ?_
                  refine r_val ez41 ?_
                  obtain ⟨z42, bz42, x0z42, ez42⟩ := or_ex z6 z41
                  refine lv_ior hx hb dX1_dock_114 ?_
                  refine r_val ez42 ?_
                  refine g_iast F w (a := (a + 2)) (kd_w2 hka) (j := (Int.toNat t)) (ix_z (by omega) (by omega)) (by omega) dX1_dock_115 (fun H locs w => ?_)
                  refine lv_iconst (v := zI 1) hx hb dX1_dock_116 rfl ?_
                  rw [hQ]
                  exact e_i F w hr hlocks ⟨_, rfl, (by omega), (Inv.to hI (a := (a + 2)) (k := (Int.toNat t)) (x := z42) (iv_wl hka _) (by omega)), (Fr.to hF (by first | omega | (dsimp only; first | done | omega)))⟩ dX1_dock_117
                · refine lv_iconst (v := zI 0) hx hb dX1_dock_101 rfl ?_
                  rw [hQ]
                  exact e_i F w hr hlocks ⟨_, rfl, (by omega), hI, hF⟩ dX1_dock_102
              · refine lv_iload hx hb dX1_dock_54 (lv_at hl 0 rfl) ?_
                refine lv_iload hx hb dX1_dock_56 (lv_at hl 1 rfl) ?_
                refine z_iadd (z := (v5_36 + 1)) hx hb dX1_dock_58 (by omega) ?_
                refine lv_istore (lv' := [(5, .int (zI (v5_36 + 1))), (4, .int (zI 1)), (0, .ref (B + 23)), (1, .ref (B + a)), (2, .int (zI t)), (3, .int (zI x))]) hx hb dX1_dock_59 hl (by decide) rfl (fun ls hl => ?_)
                refine lv_goto (tgt := 36) hx hb dX1_dock_61 (by decide) ?_
                exact ih36 (v5_36 + 1) (by omega)     (by omega) _ _ _ w (lv_sub hl [0, 1, 2, 3, 4, 5] rfl)
        exact lp36 _ (t + 1) (by omega) (Nat.lt_succ_self _) _ _ _ w (lv_sub hl [0, 1, 2, 3, 4, 5] rfl)
      · refine lv_iconst (v := zI (-1)) hx hb dX1_dock_23 rfl ?_
        refine lv_goto (tgt := 28) hx hb dX1_dock_24 (by decide) ?_
        refine lv_istore (lv' := [(4, .int (zI (-1))), (0, .ref (B + 23)), (1, .ref (B + a)), (2, .int (zI t)), (3, .int (zI x))]) hx hb dX1_dock_28 hl (by decide) rfl (fun ls hl => ?_)
        refine lv_iload_n hx hb dX1_dock_30 rfl (lv_at hl 3 rfl) ?_
        refine lv_iload hx hb dX1_dock_31 (lv_at hl 0 rfl) ?_
        refine z_iadd (z := (t - 1)) hx hb dX1_dock_33 (by omega) ?_
        refine lv_istore (lv' := [(5, .int (zI (t - 1))), (4, .int (zI (-1))), (0, .ref (B + 23)), (1, .ref (B + a)), (2, .int (zI t)), (3, .int (zI x))]) hx hb dX1_dock_34 hl (by decide) rfl (fun ls hl => ?_)
        have lp36 : ∀ (f : Nat) (v5_36 : Int), ((-1) ≤ v5_36 ∧ v5_36 ≤ 10) → (Int.toNat (v5_36 - (-1)) < f) → ∀ (H : Heap) (locs : List Loc) (ls : Array Slot), Wd D B cy s s.heap M H locs → lv_has ls 7 [(5, .int (zI v5_36)), (4, .int (zI (-1))), (0, .ref (B + 23)), (1, .ref (B + a)), (2, .int (zI t)), (3, .int (zI x))] → W p l e (rmm 2 48) s m args below meth c H locs 0 0 Q (F0 m 36 ls []) := by
          intro f
          induction f with
          | zero => intros; omega
          | succ f ih36 =>
            intro v5_36  iv5_36 hf36 H locs ls w hl
            refine lv_aload_n hx hb dX1_dock_36 rfl (lv_at hl 3 rfl) ?_
            refine lv_iload hx hb dX1_dock_37 (lv_at hl 0 rfl) ?_
            refine k_Vi F w (As := [.int (zI v5_36)]) (rest := []) (a := a) (kd_lt (a := a) hka (by decide)) (sh_9 hka _ _) rfl (q_X9_hasTone (a := a) hka (t := v5_36) (by omega) (nn := z1) (ez1) (by omega)  hI) gv_X1_47 hv_X9_hasTone ⟨(Nat.le_of_ble_eq_true rfl), (Nat.le_of_ble_eq_true rfl)⟩ hl.1 rfl (Nat.le_of_ble_eq_true rfl) ⟨Nat.zero_le _, Nat.zero_le _⟩ dX1_dock_39 (fun r43 N44 H locs hp w => ?_)
            obtain ⟨z45, rfl, bz45, xz45, hMN44⟩ := hp
            rw [hMN44] at w
            refine z_if_eq (tgt := 64) hx hb (by omega) dX1_dock_42 (by decide) (fun c46 => ?_) (fun c46 => ?_)
            · refine lv_iload_n hx hb dX1_dock_64 rfl (lv_at hl 5 rfl) ?_
              refine z_if_eq (tgt := 80) hx hb (by omega) dX1_dock_65 (by decide) (fun c47 => False.elim (by omega)) (fun c47 => ?_)
              refine lv_aload_n hx hb dX1_dock_68 rfl (lv_at hl 3 rfl) ?_
              refine lv_iload hx hb dX1_dock_69 (lv_at hl 0 rfl) ?_
              refine k_Vi F w (As := [.int (zI v5_36)]) (rest := []) (a := a) (kd_lt (a := a) hka (by decide)) (sh_9 hka _ _) rfl (q_X9_linesFrom (a := a) hka (t := v5_36) (by omega)  hI) gv_X1_56 hv_X9_linesFrom ⟨(Nat.le_of_ble_eq_true rfl), (Nat.le_of_ble_eq_true rfl)⟩ hl.1 rfl (Nat.le_of_ble_eq_true rfl) ⟨Nat.zero_le _, Nat.zero_le _⟩ dX1_dock_71 (fun r48 N49 H locs hp w => ?_)
              obtain ⟨z50, rfl, bz50, hMN49⟩ := hp
              rw [hMN49] at w
              refine k_Ni F w (As := [.int (zI z50)]) (rest := []) (q_highest (x := z50) (by omega) ) gc_X11_highest tb_95 tb_97 (by decide) hs_X11_highest ⟨(Nat.le_of_ble_eq_true rfl), (Nat.le_of_ble_eq_true rfl)⟩ hl.1 rfl (Nat.le_of_ble_eq_true rfl) ⟨Nat.zero_le _, Nat.zero_le _⟩ dX1_dock_74 (fun r51 N52 H locs hp w => ?_)
              obtain ⟨hrz53, hMz53⟩ := hp
              rw [hMz53] at w
              obtain ⟨z53, bz53, xz53, ez53⟩ := hig_ex z50 (by omega)
              refine r_val (hrz53.trans ez53) ?_
              refine lv_goto (tgt := 89) hx hb dX1_dock_77 (by decide) ?_
              refine lv_istore (lv' := [(6, .int (zI z53)), (5, .int (zI v5_36)), (4, .int (zI (-1))), (0, .ref (B + 23)), (1, .ref (B + a)), (2, .int (zI t)), (3, .int (zI x))]) hx hb dX1_dock_89 hl (by decide) rfl (fun ls hl => ?_)
              refine lv_aload_n hx hb dX1_dock_91 rfl (lv_at hl 4 rfl) ?_
              refine lv_iload_n hx hb dX1_dock_92 rfl (lv_at hl 5 rfl) ?_
              refine lv_iload hx hb dX1_dock_93 (lv_at hl 0 rfl) ?_
              refine k_Vi F w (As := [.int (zI t), .int (zI z53)]) (rest := []) (a := a) (kd_lt (a := a) hka (by decide)) (sh_9 hka _ _) rfl (q_X9_isOpen (a := a) hka (t := t) (by omega) (y := z53) (by omega)  hI) gv_X1_60 hv_X9_isOpen ⟨(Nat.le_of_ble_eq_true rfl), (Nat.le_of_ble_eq_true rfl)⟩ hl.1 rfl (Nat.le_of_ble_eq_true rfl) ⟨Nat.zero_le _, Nat.zero_le _⟩ dX1_dock_95 (fun r54 N55 H locs hp w => ?_)
              obtain ⟨z56, rfl, bz56, xz56, hMN55⟩ := hp
              rw [hMN55] at w
              refine z_if_ne (tgt := 103) hx hb (by omega) dX1_dock_98 (by decide) (fun c57 => ?_) (fun c57 => ?_)
              · refine lv_aload_n hx hb dX1_dock_103 rfl (lv_at hl 4 rfl) ?_
                refine f_9_5 F w (a := a) hka tb_78 dX1_dock_104 ?_
                refine lv_iload_n hx hb dX1_dock_107 rfl (lv_at hl 5 rfl) ?_
                refine lv_dup2_11 hx hb dX1_dock_108 rfl rfl ?_
                refine g_iald F w (a := (a + 2)) (kd_w2 hka) (j := (Int.toNat t)) (ix_z (by omega) (by omega)) (by omega) dX1_dock_109 ?_
                refine r_val (v := zI z6) (ez6) ?_
                refine lv_iconst (v := zI 1) hx hb dX1_dock_110 rfl ?_
                refine lv_iload hx hb dX1_dock_111 (lv_at hl 0 rfl) ?_
                obtain ⟨z58, bz58, x0z58, ez58⟩ := shl_ex 1 z53
                refine lv_ishl hx hb dX1_dock_113 ?_
                refine r_val ez58 ?_
                obtain ⟨z59, bz59, x0z59, ez59⟩ := or_ex z6 z58
                refine lv_ior hx hb dX1_dock_114 ?_
                refine r_val ez59 ?_
                refine g_iast F w (a := (a + 2)) (kd_w2 hka) (j := (Int.toNat t)) (ix_z (by omega) (by omega)) (by omega) dX1_dock_115 (fun H locs w => ?_)
                refine lv_iconst (v := zI 1) hx hb dX1_dock_116 rfl ?_
                rw [hQ]
                exact e_i F w hr hlocks ⟨_, rfl, (by omega), (Inv.to hI (a := (a + 2)) (k := (Int.toNat t)) (x := z59) (iv_wl hka _) (by omega)), (Fr.to hF (by first | omega | (dsimp only; first | done | omega)))⟩ dX1_dock_117
              · refine lv_iconst (v := zI 0) hx hb dX1_dock_101 rfl ?_
                rw [hQ]
                exact e_i F w hr hlocks ⟨_, rfl, (by omega), hI, hF⟩ dX1_dock_102
            · refine lv_aload_n hx hb dX1_dock_45 rfl (lv_at hl 3 rfl) ?_
              refine lv_iload hx hb dX1_dock_46 (lv_at hl 0 rfl) ?_
              refine k_Vi F w (As := [.int (zI v5_36)]) (rest := []) (a := a) (kd_lt (a := a) hka (by decide)) (sh_9 hka _ _) rfl (q_X9_linesFrom (a := a) hka (t := v5_36) (by omega)  hI) gv_X1_56 hv_X9_linesFrom ⟨(Nat.le_of_ble_eq_true rfl), (Nat.le_of_ble_eq_true rfl)⟩ hl.1 rfl (Nat.le_of_ble_eq_true rfl) ⟨Nat.zero_le _, Nat.zero_le _⟩ dX1_dock_48 (fun r60 N61 H locs hp w => ?_)
              obtain ⟨z62, rfl, bz62, hMN61⟩ := hp
              rw [hMN61] at w
              refine z_if_ne (tgt := 64) hx hb (by omega) dX1_dock_51 (by decide) (fun c63 => ?_) (fun c63 => ?_)
              · refine lv_iload_n hx hb dX1_dock_64 rfl (lv_at hl 5 rfl) ?_
                refine z_if_eq (tgt := 80) hx hb (by omega) dX1_dock_65 (by decide) (fun c64 => False.elim (by omega)) (fun c64 => ?_)
                refine lv_aload_n hx hb dX1_dock_68 rfl (lv_at hl 3 rfl) ?_
                refine lv_iload hx hb dX1_dock_69 (lv_at hl 0 rfl) ?_
                refine k_Vi F w (As := [.int (zI v5_36)]) (rest := []) (a := a) (kd_lt (a := a) hka (by decide)) (sh_9 hka _ _) rfl (q_X9_linesFrom (a := a) hka (t := v5_36) (by omega)  hI) gv_X1_56 hv_X9_linesFrom ⟨(Nat.le_of_ble_eq_true rfl), (Nat.le_of_ble_eq_true rfl)⟩ hl.1 rfl (Nat.le_of_ble_eq_true rfl) ⟨Nat.zero_le _, Nat.zero_le _⟩ dX1_dock_71 (fun r65 N66 H locs hp w => ?_)
                obtain ⟨z67, rfl, bz67, hMN66⟩ := hp
                rw [hMN66] at w
                refine k_Ni F w (As := [.int (zI z67)]) (rest := []) (q_highest (x := z67) (by omega) ) gc_X11_highest tb_95 tb_97 (by decide) hs_X11_highest ⟨(Nat.le_of_ble_eq_true rfl), (Nat.le_of_ble_eq_true rfl)⟩ hl.1 rfl (Nat.le_of_ble_eq_true rfl) ⟨Nat.zero_le _, Nat.zero_le _⟩ dX1_dock_74 (fun r68 N69 H locs hp w => ?_)
                obtain ⟨hrz70, hMz70⟩ := hp
                rw [hMz70] at w
                obtain ⟨z70, bz70, xz70, ez70⟩ := hig_ex z67 (by omega)
                refine r_val (hrz70.trans ez70) ?_
                refine lv_goto (tgt := 89) hx hb dX1_dock_77 (by decide) ?_
                refine lv_istore (lv' := [(6, .int (zI z70)), (5, .int (zI v5_36)), (4, .int (zI (-1))), (0, .ref (B + 23)), (1, .ref (B + a)), (2, .int (zI t)), (3, .int (zI x))]) hx hb dX1_dock_89 hl (by decide) rfl (fun ls hl => ?_)
                refine lv_aload_n hx hb dX1_dock_91 rfl (lv_at hl 4 rfl) ?_
                refine lv_iload_n hx hb dX1_dock_92 rfl (lv_at hl 5 rfl) ?_
                refine lv_iload hx hb dX1_dock_93 (lv_at hl 0 rfl) ?_
                refine k_Vi F w (As := [.int (zI t), .int (zI z70)]) (rest := []) (a := a) (kd_lt (a := a) hka (by decide)) (sh_9 hka _ _) rfl (q_X9_isOpen (a := a) hka (t := t) (by omega) (y := z70) (by omega)  hI) gv_X1_60 hv_X9_isOpen ⟨(Nat.le_of_ble_eq_true rfl), (Nat.le_of_ble_eq_true rfl)⟩ hl.1 rfl (Nat.le_of_ble_eq_true rfl) ⟨Nat.zero_le _, Nat.zero_le _⟩ dX1_dock_95 (fun r71 N72 H locs hp w => ?_)
                obtain ⟨z73, rfl, bz73, xz73, hMN72⟩ := hp
                rw [hMN72] at w
                refine z_if_ne (tgt := 103) hx hb (by omega) dX1_dock_98 (by decide) (fun c74 => ?_) (fun c74 => ?_)
                · refine lv_aload_n hx hb dX1_dock_103 rfl (lv_at hl 4 rfl) ?_
                  refine f_9_5 F w (a := a) hka tb_78 dX1_dock_104 ?_
                  refine lv_iload_n hx hb dX1_dock_107 rfl (lv_at hl 5 rfl) ?_
                  refine lv_dup2_11 hx hb dX1_dock_108 rfl rfl ?_
                  refine g_iald F w (a := (a + 2)) (kd_w2 hka) (j := (Int.toNat t)) (ix_z (by omega) (by omega)) (by omega) dX1_dock_109 ?_
                  refine r_val (v := zI z6) (ez6) ?_
                  refine lv_iconst (v := zI 1) hx hb dX1_dock_110 rfl ?_
                  refine lv_iload hx hb dX1_dock_111 (lv_at hl 0 rfl) ?_
                  obtain ⟨z75, bz75, x0z75, ez75⟩ := shl_ex 1 z70
                  refine lv_ishl hx hb dX1_dock_113 ?_
                  refine r_val ez75 ?_
                  obtain ⟨z76, bz76, x0z76, ez76⟩ := or_ex z6 z75
                  refine lv_ior hx hb dX1_dock_114 ?_
                  refine r_val ez76 ?_
                  refine g_iast F w (a := (a + 2)) (kd_w2 hka) (j := (Int.toNat t)) (ix_z (by omega) (by omega)) (by omega) dX1_dock_115 (fun H locs w => ?_)
                  refine lv_iconst (v := zI 1) hx hb dX1_dock_116 rfl ?_
                  rw [hQ]
                  exact e_i F w hr hlocks ⟨_, rfl, (by omega), (Inv.to hI (a := (a + 2)) (k := (Int.toNat t)) (x := z76) (iv_wl hka _) (by omega)), (Fr.to hF (by first | omega | (dsimp only; first | done | omega)))⟩ dX1_dock_117
                · refine lv_iconst (v := zI 0) hx hb dX1_dock_101 rfl ?_
                  rw [hQ]
                  exact e_i F w hr hlocks ⟨_, rfl, (by omega), hI, hF⟩ dX1_dock_102
              · refine lv_iload hx hb dX1_dock_54 (lv_at hl 0 rfl) ?_
                refine lv_iload hx hb dX1_dock_56 (lv_at hl 1 rfl) ?_
                refine z_iadd (z := (v5_36 - 1)) hx hb dX1_dock_58 (by omega) ?_
                refine lv_istore (lv' := [(5, .int (zI (v5_36 - 1))), (4, .int (zI (-1))), (0, .ref (B + 23)), (1, .ref (B + a)), (2, .int (zI t)), (3, .int (zI x))]) hx hb dX1_dock_59 hl (by decide) rfl (fun ls hl => ?_)
                refine lv_goto (tgt := 36) hx hb dX1_dock_61 (by decide) ?_
                exact ih36 (v5_36 - 1) (by omega)     (by omega) _ _ _ w (lv_sub hl [0, 1, 2, 3, 4, 5] rfl)
        exact lp36 _ (t - 1) (by omega) (Nat.lt_succ_self _) _ _ _ w (lv_sub hl [0, 1, 2, 3, 4, 5] rfl)
    · refine lv_iconst (v := zI 0) hx hb dX1_dock_17 rfl ?_
      rw [hQ]
      exact e_i F w hr hlocks ⟨_, rfl, (by omega), hI, hF⟩ dX1_dock_18
set_option maxRecDepth 4000 in
theorem q_X1_drop {l : Launch} {D : va_G} {B : Nat} {cy : Nat → ClassId} {M : Mem} {a : Nat} (hka : kd a = (9, 0, 0)) {t : Int} (ht : 0 ≤ t ∧ t ≤ 11) (hI : Inv M) : Ci l D B cy yX1_drop cX1_drop 3 (some .int) 2 43 [.ref (B + 23), .ref (B + a), .int (zI t)] M (fun r M1 => ∃ z : Int, r = zI z ∧ (0 ≤ z ∧ z ≤ 1) ∧ Inv M1 ∧ Fr (fun b9 k9 => b9 = (a + 1) ∨ b9 = (a + 2) ∨ b9 = a) M1 M) := by
  refine s_anyQ (by decide) (Nat.le_of_ble_eq_true rfl) ?_
  intro p e s m args below meth c ls Q F hr hlocks hQ w hl
  have F : CallFix p m c cX1_drop 3 s args TB RX1 := F
  have hx := F.1
  have hb := F.2.1
  have hl : lv_has ls 3 [(0, .ref (B + 23)), (1, .ref (B + a)), (2, .int (zI t))] := hl
  have hF : Fr (fun b9 k9 => b9 = (a + 1) ∨ b9 = (a + 2) ∨ b9 = a) M M := Fr.rf
  refine lv_aload_n hx hb dX1_drop_0 rfl (lv_at hl 1 rfl) ?_
  refine lv_iload_n hx hb dX1_drop_1 rfl (lv_at hl 2 rfl) ?_
  refine k_Vi F w (As := [.int (zI t)]) (rest := []) (a := a) (kd_lt (a := a) hka (by decide)) (sh_9 hka _ _) rfl (q_X9_linesFrom (a := a) hka (t := t) (by omega)  hI) gv_X1_56 hv_X9_linesFrom ⟨(Nat.le_of_ble_eq_true rfl), (Nat.le_of_ble_eq_true rfl)⟩ hl.1 rfl (Nat.le_of_ble_eq_true rfl) ⟨Nat.zero_le _, Nat.zero_le _⟩ dX1_drop_2 (fun r1 N2 H locs hp w => ?_)
  obtain ⟨z3, rfl, bz3, hMN2⟩ := hp
  rw [hMN2] at w
  refine z_if_eq (tgt := 10) hx hb (by omega) dX1_drop_5 (by decide) (fun c4 => ?_) (fun c4 => ?_)
  · refine lv_aload_n hx hb dX1_drop_10 rfl (lv_at hl 1 rfl) ?_
    refine lv_iload_n hx hb dX1_drop_11 rfl (lv_at hl 2 rfl) ?_
    refine k_Vv F w (As := [.int (zI t)]) (rest := []) (a := a) (kd_lt (a := a) hka (by decide)) (sh_9 hka _ _) rfl (q_X9_removeTone (a := a) hka (t := t) (by omega)  hI) gv_X1_136 hv_X9_removeTone ⟨(Nat.le_of_ble_eq_true rfl), (Nat.le_of_ble_eq_true rfl)⟩ hl.1 rfl (Nat.le_of_ble_eq_true rfl) ⟨Nat.zero_le _, Nat.zero_le _⟩ dX1_drop_12 (fun N6 H locs hp w => ?_)
    obtain ⟨hIN6, hFN6⟩ := hp
    have hGN6 := Fr.tr hF hFN6 (S := (fun b9 k9 => b9 = (a + 1) ∨ b9 = (a + 2) ∨ b9 = a)) (fun b k h => by first | omega | (dsimp only at h ⊢; omega))
    refine lv_iconst (v := zI 1) hx hb dX1_drop_15 rfl ?_
    rw [hQ]
    exact e_i F w hr hlocks ⟨_, rfl, (by omega), hIN6, hGN6⟩ dX1_drop_16
  · refine lv_iconst (v := zI 0) hx hb dX1_drop_8 rfl ?_
    rw [hQ]
    exact e_i F w hr hlocks ⟨_, rfl, (by omega), hI, hF⟩ dX1_drop_9
theorem dX1_fuse_0 : decode cX1_fuse 0 = .ok (.iconst 0, 1) := wdX1_fuse_0
theorem dX1_fuse_1 : decode cX1_fuse 1 = .ok (.istore_n 3, 1) := wdX1_fuse_1
theorem dX1_fuse_2 : decode cX1_fuse 2 = .ok (.aload_n 1, 1) := wdX1_fuse_2
theorem dX1_fuse_3 : decode cX1_fuse 3 = .ok (.getfield 53, 3) := wdX1_fuse_3
theorem dX1_fuse_6 : decode cX1_fuse 6 = .ok (.iconst 1, 1) := wdX1_fuse_6
theorem dX1_fuse_7 : decode cX1_fuse 7 = .ok (.isub, 1) := wdX1_fuse_7
theorem dX1_fuse_8 : decode cX1_fuse 8 = .ok (.iload_n 2, 1) := wdX1_fuse_8
theorem dX1_fuse_9 : decode cX1_fuse 9 = .ok (.isub, 1) := wdX1_fuse_9
theorem dX1_fuse_10 : decode cX1_fuse 10 = .ok (.istore 4, 2) := wdX1_fuse_10
theorem dX1_fuse_12 : decode cX1_fuse 12 = .ok (.iload 4, 2) := wdX1_fuse_12
theorem dX1_fuse_14 : decode cX1_fuse 14 = .ok (.ifCond .le 85, 3) := wdX1_fuse_14
theorem dX1_fuse_99 : decode cX1_fuse 99 = .ok (.iload_n 3, 1) := wdX1_fuse_99
theorem dX1_fuse_100 : decode cX1_fuse 100 = .ok (.ireturn, 1) := wdX1_fuse_100
theorem dX1_fuse_17 : decode cX1_fuse 17 = .ok (.aload_n 1, 1) := wdX1_fuse_17
theorem dX1_fuse_18 : decode cX1_fuse 18 = .ok (.iload_n 2, 1) := wdX1_fuse_18
theorem dX1_fuse_19 : decode cX1_fuse 19 = .ok (.iconst 1, 1) := wdX1_fuse_19
theorem dX1_fuse_20 : decode cX1_fuse 20 = .ok (.iadd, 1) := wdX1_fuse_20
theorem dX1_fuse_21 : decode cX1_fuse 21 = .ok (.invokevirtual 47, 3) := wdX1_fuse_21
theorem dX1_fuse_24 : decode cX1_fuse 24 = .ok (.ifCond .eq 75, 3) := wdX1_fuse_24
theorem dX1_fuse_27 : decode cX1_fuse 27 = .ok (.aload_n 1, 1) := wdX1_fuse_27
theorem dX1_fuse_28 : decode cX1_fuse 28 = .ok (.iload_n 2, 1) := wdX1_fuse_28
theorem dX1_fuse_29 : decode cX1_fuse 29 = .ok (.invokevirtual 94, 3) := wdX1_fuse_29
theorem dX1_fuse_32 : decode cX1_fuse 32 = .ok (.aload_n 1, 1) := wdX1_fuse_32
theorem dX1_fuse_33 : decode cX1_fuse 33 = .ok (.getfield 140, 3) := wdX1_fuse_33
theorem dX1_fuse_36 : decode cX1_fuse 36 = .ok (.iload_n 2, 1) := wdX1_fuse_36
theorem dX1_fuse_37 : decode cX1_fuse 37 = .ok (.iconst 1, 1) := wdX1_fuse_37
theorem dX1_fuse_38 : decode cX1_fuse 38 = .ok (.iadd, 1) := wdX1_fuse_38
theorem dX1_fuse_39 : decode cX1_fuse 39 = .ok (.iaload, 1) := wdX1_fuse_39
theorem dX1_fuse_40 : decode cX1_fuse 40 = .ok (.if_icmp .eq 6, 3) := wdX1_fuse_40
theorem dX1_fuse_46 : decode cX1_fuse 46 = .ok (.aload_n 1, 1) := wdX1_fuse_46
theorem dX1_fuse_47 : decode cX1_fuse 47 = .ok (.getfield 50, 3) := wdX1_fuse_47
theorem dX1_fuse_50 : decode cX1_fuse 50 = .ok (.iload_n 2, 1) := wdX1_fuse_50
theorem dX1_fuse_51 : decode cX1_fuse 51 = .ok (.iconst 1, 1) := wdX1_fuse_51
theorem dX1_fuse_52 : decode cX1_fuse 52 = .ok (.iadd, 1) := wdX1_fuse_52
theorem dX1_fuse_53 : decode cX1_fuse 53 = .ok (.iaload, 1) := wdX1_fuse_53
theorem dX1_fuse_54 : decode cX1_fuse 54 = .ok (.aload_n 1, 1) := wdX1_fuse_54
theorem dX1_fuse_55 : decode cX1_fuse 55 = .ok (.getfield 50, 3) := wdX1_fuse_55
theorem dX1_fuse_58 : decode cX1_fuse 58 = .ok (.iload_n 2, 1) := wdX1_fuse_58
theorem dX1_fuse_59 : decode cX1_fuse 59 = .ok (.iaload, 1) := wdX1_fuse_59
theorem dX1_fuse_60 : decode cX1_fuse 60 = .ok (.iconst (-1), 1) := wdX1_fuse_60
theorem dX1_fuse_61 : decode cX1_fuse 61 = .ok (.ixor, 1) := wdX1_fuse_61
theorem dX1_fuse_62 : decode cX1_fuse 62 = .ok (.iand, 1) := wdX1_fuse_62
theorem dX1_fuse_63 : decode cX1_fuse 63 = .ok (.istore 5, 2) := wdX1_fuse_63
theorem dX1_fuse_65 : decode cX1_fuse 65 = .ok (.aload_n 1, 1) := wdX1_fuse_65
theorem dX1_fuse_66 : decode cX1_fuse 66 = .ok (.getfield 50, 3) := wdX1_fuse_66
theorem dX1_fuse_69 : decode cX1_fuse 69 = .ok (.iload_n 2, 1) := wdX1_fuse_69
theorem dX1_fuse_70 : decode cX1_fuse 70 = .ok (.dup2, 1) := wdX1_fuse_70
theorem dX1_fuse_71 : decode cX1_fuse 71 = .ok (.iaload, 1) := wdX1_fuse_71
theorem dX1_fuse_72 : decode cX1_fuse 72 = .ok (.iload 5, 2) := wdX1_fuse_72
theorem dX1_fuse_74 : decode cX1_fuse 74 = .ok (.ior, 1) := wdX1_fuse_74
theorem dX1_fuse_75 : decode cX1_fuse 75 = .ok (.iastore, 1) := wdX1_fuse_75
theorem dX1_fuse_76 : decode cX1_fuse 76 = .ok (.aload_n 1, 1) := wdX1_fuse_76
theorem dX1_fuse_77 : decode cX1_fuse 77 = .ok (.iload_n 2, 1) := wdX1_fuse_77
theorem dX1_fuse_78 : decode cX1_fuse 78 = .ok (.iconst 1, 1) := wdX1_fuse_78
theorem dX1_fuse_79 : decode cX1_fuse 79 = .ok (.iadd, 1) := wdX1_fuse_79
theorem dX1_fuse_80 : decode cX1_fuse 80 = .ok (.invokevirtual 136, 3) := wdX1_fuse_80
theorem dX1_fuse_83 : decode cX1_fuse 83 = .ok (.iload_n 3, 1) := wdX1_fuse_83
theorem dX1_fuse_84 : decode cX1_fuse 84 = .ok (.iload 5, 2) := wdX1_fuse_84
theorem dX1_fuse_86 : decode cX1_fuse 86 = .ok (.invokestatic 67, 3) := wdX1_fuse_86
theorem dX1_fuse_89 : decode cX1_fuse 89 = .ok (.iconst 1, 1) := wdX1_fuse_89
theorem dX1_fuse_90 : decode cX1_fuse 90 = .ok (.iadd, 1) := wdX1_fuse_90
theorem dX1_fuse_91 : decode cX1_fuse 91 = .ok (.iadd, 1) := wdX1_fuse_91
theorem dX1_fuse_92 : decode cX1_fuse 92 = .ok (.istore_n 3, 1) := wdX1_fuse_92
theorem dX1_fuse_93 : decode cX1_fuse 93 = .ok (.iinc 4 (-1), 3) := wdX1_fuse_93
theorem dX1_fuse_96 : decode cX1_fuse 96 = .ok (.goto (-84), 3) := wdX1_fuse_96
theorem dX1_fuse_43 : decode cX1_fuse 43 = .ok (.goto 56, 3) := wdX1_fuse_43
set_option maxRecDepth 4000 in
theorem q_X1_fuse {l : Launch} {D : va_G} {B : Nat} {cy : Nat → ClassId} {M : Mem} {a : Nat} (hka : kd a = (9, 0, 0)) {t : Int} (ht : 0 ≤ t ∧ t ≤ 11) (hI : Inv M) : Ci l D B cy yX1_fuse cX1_fuse 6 (some .int) 2 43 [.ref (B + 23), .ref (B + a), .int (zI t)] M (fun r M1 => ∃ z : Int, r = zI z ∧ ((-2147483648) ≤ z ∧ z ≤ 2147483647) ∧ Inv M1 ∧ Fr (fun b9 k9 => b9 = (a + 1) ∨ b9 = (a + 2) ∨ b9 = a) M1 M) := by
  refine s_anyQ (by decide) (Nat.le_of_ble_eq_true rfl) ?_
  intro p e s m args below meth c ls Q F hr hlocks hQ w hl
  have F : CallFix p m c cX1_fuse 6 s args TB RX1 := F
  have hx := F.1
  have hb := F.2.1
  have hl : lv_has ls 6 [(0, .ref (B + 23)), (1, .ref (B + a)), (2, .int (zI t))] := hl
  have hF : Fr (fun b9 k9 => b9 = (a + 1) ∨ b9 = (a + 2) ∨ b9 = a) M M := Fr.rf
  refine lv_iconst (v := zI 0) hx hb dX1_fuse_0 rfl ?_
  refine lv_istore_n (lv' := [(3, .int (zI 0)), (0, .ref (B + 23)), (1, .ref (B + a)), (2, .int (zI t))]) hx hb dX1_fuse_1 rfl hl (by decide) rfl (fun ls hl => ?_)
  refine lv_aload_n hx hb dX1_fuse_2 rfl (lv_at hl 2 rfl) ?_
  refine f_9_0 F w (a := a) hka tb_62 dX1_fuse_3 ?_
  obtain ⟨z1, bz1, ez1⟩ := Inv.ld (k := 0) hI (iv_w0 hka) (by have := lt_w hka; omega)
  refine r_val ez1 ?_
  refine lv_iconst (v := zI 1) hx hb dX1_fuse_6 rfl ?_
  refine z_isub (z := (z1 - 1)) hx hb dX1_fuse_7 (by omega) ?_
  refine lv_iload_n hx hb dX1_fuse_8 rfl (lv_at hl 3 rfl) ?_
  refine z_isub (z := ((z1 - 1) - t)) hx hb dX1_fuse_9 (by omega) ?_
  refine lv_istore (lv' := [(4, .int (zI ((z1 - 1) - t))), (3, .int (zI 0)), (0, .ref (B + 23)), (1, .ref (B + a)), (2, .int (zI t))]) hx hb dX1_fuse_10 hl (by decide) rfl (fun ls hl => ?_)
  have lp12 : ∀ (f : Nat) (v4_12 : Int) (v3_12 : Int)  (NL12 : Mem), ((-100) ≤ v4_12 ∧ v4_12 ≤ 11) → ((-2147483648) ≤ v3_12 ∧ v3_12 ≤ 2147483647) → Inv NL12 → Fr (fun b9 k9 => b9 = (a + 1) ∨ b9 = (a + 2) ∨ b9 = a) NL12 M → (Int.toNat (v4_12 - 0) < f) → ∀ (H : Heap) (locs : List Loc) (ls : Array Slot), Wd D B cy s s.heap NL12 H locs → lv_has ls 6 [(4, .int (zI v4_12)), (3, .int (zI v3_12)), (0, .ref (B + 23)), (1, .ref (B + a)), (2, .int (zI t))] → W p l e (rmm 2 43) s m args below meth c H locs 0 0 Q (F0 m 12 ls []) := by
    intro f
    induction f with
    | zero => intros; omega
    | succ f ih12 =>
      intro v4_12 v3_12  NL12 iv4_12 iv3_12 hIL12 hFL12 hf12 H locs ls w hl
      refine lv_iload hx hb dX1_fuse_12 (lv_at hl 0 rfl) ?_
      refine z_if_le (tgt := 99) hx hb (by omega) dX1_fuse_14 (by decide) (fun c2 => ?_) (fun c2 => ?_)
      · refine lv_iload_n hx hb dX1_fuse_99 rfl (lv_at hl 1 rfl) ?_
        rw [hQ]
        exact e_i F w hr hlocks ⟨_, rfl, (by omega), hIL12, hFL12⟩ dX1_fuse_100
      · refine lv_aload_n hx hb dX1_fuse_17 rfl (lv_at hl 3 rfl) ?_
        refine lv_iload_n hx hb dX1_fuse_18 rfl (lv_at hl 4 rfl) ?_
        refine lv_iconst (v := zI 1) hx hb dX1_fuse_19 rfl ?_
        refine z_iadd (z := (t + 1)) hx hb dX1_fuse_20 (by omega) ?_
        obtain ⟨z3, bz3, ez3⟩ := Inv.ld (k := 0) hIL12 (iv_w0 hka) (by have := lt_w hka; omega)
        refine k_Vi F w (As := [.int (zI (t + 1))]) (rest := []) (a := a) (kd_lt (a := a) hka (by decide)) (sh_9 hka _ _) rfl (q_X9_hasTone (a := a) hka (t := (t + 1)) (by omega) (nn := z3) (ez3) (by omega)  hIL12) gv_X1_47 hv_X9_hasTone ⟨(Nat.le_of_ble_eq_true rfl), (Nat.le_of_ble_eq_true rfl)⟩ hl.1 rfl (Nat.le_of_ble_eq_true rfl) ⟨Nat.zero_le _, Nat.zero_le _⟩ dX1_fuse_21 (fun r4 N5 H locs hp w => ?_)
        obtain ⟨z6, rfl, bz6, xz6, hMN5⟩ := hp
        rw [hMN5] at w
        refine z_if_eq (tgt := 99) hx hb (by omega) dX1_fuse_24 (by decide) (fun c7 => ?_) (fun c7 => ?_)
        · refine lv_iload_n hx hb dX1_fuse_99 rfl (lv_at hl 1 rfl) ?_
          rw [hQ]
          exact e_i F w hr hlocks ⟨_, rfl, (by omega), hIL12, hFL12⟩ dX1_fuse_100
        · refine lv_aload_n hx hb dX1_fuse_27 rfl (lv_at hl 3 rfl) ?_
          refine lv_iload_n hx hb dX1_fuse_28 rfl (lv_at hl 4 rfl) ?_
          refine k_Vi F w (As := [.int (zI t)]) (rest := []) (a := a) (kd_lt (a := a) hka (by decide)) (sh_9 hka _ _) rfl (q_X9_kindOf (a := a) hka (t := t) (by omega)  hIL12) gv_X1_94 hv_X9_kindOf ⟨(Nat.le_of_ble_eq_true rfl), (Nat.le_of_ble_eq_true rfl)⟩ hl.1 rfl (Nat.le_of_ble_eq_true rfl) ⟨Nat.zero_le _, Nat.zero_le _⟩ dX1_fuse_29 (fun r8 N9 H locs hp w => ?_)
          obtain ⟨z10, rfl, bz10, hMN9⟩ := hp
          rw [hMN9] at w
          refine lv_aload_n hx hb dX1_fuse_32 rfl (lv_at hl 3 rfl) ?_
          refine f_9_4 F w (a := a) hka tb_85 dX1_fuse_33 ?_
          refine lv_iload_n hx hb dX1_fuse_36 rfl (lv_at hl 4 rfl) ?_
          refine lv_iconst (v := zI 1) hx hb dX1_fuse_37 rfl ?_
          refine z_iadd (z := (t + 1)) hx hb dX1_fuse_38 (by omega) ?_
          refine g_iald F w (a := (a + 1)) (kd_w1 hka) (j := (Int.toNat (t + 1))) (ix_z (by omega) (by omega)) (by omega) dX1_fuse_39 ?_
          obtain ⟨z11, bz11, ez11⟩ := Inv.ld (k := (Int.toNat (t + 1))) hIL12 (iv_wk hka _) (by have := lt_w hka; omega)
          refine r_val ez11 ?_
          refine z_icmp_eq (tgt := 46) hx hb (by omega) (by omega) dX1_fuse_40 (by decide) (fun c12 => ?_) (fun c12 => ?_)
          · refine lv_aload_n hx hb dX1_fuse_46 rfl (lv_at hl 3 rfl) ?_
            refine f_9_5 F w (a := a) hka tb_78 dX1_fuse_47 ?_
            refine lv_iload_n hx hb dX1_fuse_50 rfl (lv_at hl 4 rfl) ?_
            refine lv_iconst (v := zI 1) hx hb dX1_fuse_51 rfl ?_
            refine z_iadd (z := (t + 1)) hx hb dX1_fuse_52 (by omega) ?_
            refine g_iald F w (a := (a + 2)) (kd_w2 hka) (j := (Int.toNat (t + 1))) (ix_z (by omega) (by omega)) (by omega) dX1_fuse_53 ?_
            obtain ⟨z13, bz13, ez13⟩ := Inv.ld (k := (Int.toNat (t + 1))) hIL12 (iv_wl hka _) (by have := lt_w hka; omega)
            refine r_val ez13 ?_
            refine lv_aload_n hx hb dX1_fuse_54 rfl (lv_at hl 3 rfl) ?_
            refine f_9_5 F w (a := a) hka tb_78 dX1_fuse_55 ?_
            refine lv_iload_n hx hb dX1_fuse_58 rfl (lv_at hl 4 rfl) ?_
            refine g_iald F w (a := (a + 2)) (kd_w2 hka) (j := (Int.toNat t)) (ix_z (by omega) (by omega)) (by omega) dX1_fuse_59 ?_
            obtain ⟨z14, bz14, ez14⟩ := Inv.ld (k := (Int.toNat t)) hIL12 (iv_wl hka _) (by have := lt_w hka; omega)
            refine r_val ez14 ?_
            refine lv_iconst (v := zI (-1)) hx hb dX1_fuse_60 rfl ?_
            refine lv_ixor hx hb dX1_fuse_61 ?_
            refine r_val (not_ex z14) ?_
            obtain ⟨z15, bz15, x0z15, x1z15, ez15⟩ := and_ex z13 (-z14 - 1) (by omega) (by omega)
            refine lv_iand hx hb dX1_fuse_62 ?_
            refine r_val ez15 ?_
            refine lv_istore (lv' := [(5, .int (zI z15)), (4, .int (zI v4_12)), (3, .int (zI v3_12)), (0, .ref (B + 23)), (1, .ref (B + a)), (2, .int (zI t))]) hx hb dX1_fuse_63 hl (by decide) rfl (fun ls hl => ?_)
            refine lv_aload_n hx hb dX1_fuse_65 rfl (lv_at hl 4 rfl) ?_
            refine f_9_5 F w (a := a) hka tb_78 dX1_fuse_66 ?_
            refine lv_iload_n hx hb dX1_fuse_69 rfl (lv_at hl 5 rfl) ?_
            refine lv_dup2_11 hx hb dX1_fuse_70 rfl rfl ?_
            refine g_iald F w (a := (a + 2)) (kd_w2 hka) (j := (Int.toNat t)) (ix_z (by omega) (by omega)) (by omega) dX1_fuse_71 ?_
            refine r_val (v := zI z14) (ez14) ?_
            refine lv_iload hx hb dX1_fuse_72 (lv_at hl 0 rfl) ?_
            obtain ⟨z16, bz16, x0z16, ez16⟩ := or_ex z14 z15
            refine lv_ior hx hb dX1_fuse_74 ?_
            refine r_val ez16 ?_
            refine g_iast F w (a := (a + 2)) (kd_w2 hka) (j := (Int.toNat t)) (ix_z (by omega) (by omega)) (by omega) dX1_fuse_75 (fun H locs w => ?_)
            refine lv_aload_n hx hb dX1_fuse_76 rfl (lv_at hl 4 rfl) ?_
            refine lv_iload_n hx hb dX1_fuse_77 rfl (lv_at hl 5 rfl) ?_
            refine lv_iconst (v := zI 1) hx hb dX1_fuse_78 rfl ?_
            refine z_iadd (z := (t + 1)) hx hb dX1_fuse_79 (by omega) ?_
            refine k_Vv F w (As := [.int (zI (t + 1))]) (rest := []) (a := a) (kd_lt (a := a) hka (by decide)) (sh_9 hka _ _) rfl (q_X9_removeTone (a := a) hka (t := (t + 1)) (by omega)  (Inv.to hIL12 (a := (a + 2)) (k := (Int.toNat t)) (x := z16) (iv_wl hka _) (by omega))) gv_X1_136 hv_X9_removeTone ⟨(Nat.le_of_ble_eq_true rfl), (Nat.le_of_ble_eq_true rfl)⟩ hl.1 rfl (Nat.le_of_ble_eq_true rfl) ⟨Nat.zero_le _, Nat.zero_le _⟩ dX1_fuse_80 (fun N18 H locs hp w => ?_)
            obtain ⟨hIN18, hFN18⟩ := hp
            have hGN18 := Fr.tr (Fr.to hFL12 (by first | omega | (dsimp only; first | done | omega))) hFN18 (S := (fun b9 k9 => b9 = (a + 1) ∨ b9 = (a + 2) ∨ b9 = a)) (fun b k h => by first | omega | (dsimp only at h ⊢; omega))
            refine lv_iload_n hx hb dX1_fuse_83 rfl (lv_at hl 2 rfl) ?_
            refine lv_iload hx hb dX1_fuse_84 (lv_at hl 0 rfl) ?_
            refine k_Si F w (As := [.int (zI z15)]) (rest := [.int (zI v3_12)]) (q_bitCount (x := z15) (by omega) ) gs_X1_67 hs_J6_bitCount_0f7a4 ⟨(Nat.le_of_ble_eq_true rfl), (Nat.le_of_ble_eq_true rfl)⟩ hl.1 rfl (Nat.le_of_ble_eq_true rfl) ⟨Nat.zero_le _, Nat.zero_le _⟩ dX1_fuse_86 (fun r20 N21 H locs hp w => ?_)
            obtain ⟨hrz22, hMz22⟩ := hp
            rw [hMz22] at w
            obtain ⟨z22, bz22, ez22⟩ := pop_ex z15 (by omega)
            refine r_val (hrz22.trans ez22) ?_
            refine lv_iconst (v := zI 1) hx hb dX1_fuse_89 rfl ?_
            refine z_iadd (z := (z22 + 1)) hx hb dX1_fuse_90 (by omega) ?_
            obtain ⟨z23, bz23, x0z23, ez23⟩ := add_ex v3_12 (z22 + 1)
            refine lv_iadd hx hb dX1_fuse_91 ?_
            refine r_val ez23 ?_
            refine lv_istore_n (lv' := [(3, .int (zI z23)), (5, .int (zI z15)), (4, .int (zI v4_12)), (0, .ref (B + 23)), (1, .ref (B + a)), (2, .int (zI t))]) hx hb dX1_fuse_92 rfl hl (by decide) rfl (fun ls hl => ?_)
            refine z_iinc (v := (v4_12 - 1)) (lv' := [(4, .int (zI (v4_12 - 1))), (3, .int (zI z23)), (5, .int (zI z15)), (0, .ref (B + 23)), (1, .ref (B + a)), (2, .int (zI t))]) hx hb dX1_fuse_93 hl (k := 2) rfl (by omega) (by decide) rfl (fun ls hl => ?_)
            refine lv_goto (tgt := 12) hx hb dX1_fuse_96 (by decide) ?_
            exact ih12 (v4_12 - 1) z23 N18 (by omega) (by omega)    hIN18 hGN18 (by omega) _ _ _ w (lv_sub hl [0, 1, 3, 4, 5] rfl)
          · refine lv_goto (tgt := 99) hx hb dX1_fuse_43 (by decide) ?_
            refine lv_iload_n hx hb dX1_fuse_99 rfl (lv_at hl 1 rfl) ?_
            rw [hQ]
            exact e_i F w hr hlocks ⟨_, rfl, (by omega), hIL12, hFL12⟩ dX1_fuse_100
  exact lp12 _ ((z1 - 1) - t) 0 M (by omega) (by omega) hI hF (Nat.lt_succ_self _) _ _ _ w (lv_sub hl [0, 1, 2, 3, 4] rfl)
set_option maxRecDepth 4000 in
theorem q_X1_turnTo {l : Launch} {D : va_G} {B : Nat} {cy : Nat → ClassId} {M : Mem} {a : Nat} (hka : kd a = (9, 0, 0)) {t : Int} (ht : 0 ≤ t ∧ t ≤ 11) {x : Int} (hx : (-2) ≤ x ∧ x ≤ 99) (hI : Inv M) : Ci l D B cy yX1_turnTo cX1_turnTo 5 (some .int) 2 42 [.ref (B + 23), .ref (B + a), .int (zI t), .int (zI x)] M (fun r M1 => ∃ z : Int, r = zI z ∧ (0 ≤ z ∧ z ≤ 1) ∧ Inv M1 ∧ Fr (fun b9 k9 => b9 = (a + 1)) M1 M) := by
  refine s_anyQ (by decide) (Nat.le_of_ble_eq_true rfl) ?_
  intro p e s m args below meth c ls Q F hr hlocks hQ w hl
  have F : CallFix p m c cX1_turnTo 5 s args TB RX1 := F
  have hx := F.1
  have hb := F.2.1
  have hl : lv_has ls 5 [(0, .ref (B + 23)), (1, .ref (B + a)), (2, .int (zI t)), (3, .int (zI x))] := hl
  have hF : Fr (fun b9 k9 => b9 = (a + 1)) M M := Fr.rf
  refine lv_aload_n hx hb dX1_turnTo_0 rfl (lv_at hl 1 rfl) ?_
  refine lv_iload_n hx hb dX1_turnTo_1 rfl (lv_at hl 2 rfl) ?_
  refine k_Vi F w (As := [.int (zI t)]) (rest := []) (a := a) (kd_lt (a := a) hka (by decide)) (sh_9 hka _ _) rfl (q_X9_kindOf (a := a) hka (t := t) (by omega)  hI) gv_X1_94 hv_X9_kindOf ⟨(Nat.le_of_ble_eq_true rfl), (Nat.le_of_ble_eq_true rfl)⟩ hl.1 rfl (Nat.le_of_ble_eq_true rfl) ⟨Nat.zero_le _, Nat.zero_le _⟩ dX1_turnTo_2 (fun r1 N2 H locs hp w => ?_)
  obtain ⟨z3, rfl, bz3, hMN2⟩ := hp
  rw [hMN2] at w
  refine lv_istore (lv' := [(4, .int (zI z3)), (0, .ref (B + 23)), (1, .ref (B + a)), (2, .int (zI t)), (3, .int (zI x))]) hx hb dX1_turnTo_5 hl (by decide) rfl (fun ls hl => ?_)
  refine lv_iload hx hb dX1_turnTo_7 (lv_at hl 0 rfl) ?_
  refine lv_iconst (v := zI (-1)) hx hb dX1_turnTo_9 rfl ?_
  refine z_icmp_eq (tgt := 31) hx hb (by omega) (by omega) dX1_turnTo_10 (by decide) (fun c4 => ?_) (fun c4 => ?_)
  · refine lv_iconst (v := zI 0) hx hb dX1_turnTo_31 rfl ?_
    rw [hQ]
    exact e_i F w hr hlocks ⟨_, rfl, (by omega), hI, hF⟩ dX1_turnTo_32
  · refine lv_iload hx hb dX1_turnTo_13 (lv_at hl 0 rfl) ?_
    refine lv_iload_n hx hb dX1_turnTo_15 rfl (lv_at hl 4 rfl) ?_
    refine z_icmp_eq (tgt := 31) hx hb (by omega) (by omega) dX1_turnTo_16 (by decide) (fun c5 => ?_) (fun c5 => ?_)
    · refine lv_iconst (v := zI 0) hx hb dX1_turnTo_31 rfl ?_
      rw [hQ]
      exact e_i F w hr hlocks ⟨_, rfl, (by omega), hI, hF⟩ dX1_turnTo_32
    · refine lv_aload_n hx hb dX1_turnTo_19 rfl (lv_at hl 2 rfl) ?_
      refine lv_iload_n hx hb dX1_turnTo_20 rfl (lv_at hl 3 rfl) ?_
      refine lv_iconst (v := zI 1) hx hb dX1_turnTo_21 rfl ?_
      refine z_isub (z := (t - 1)) hx hb dX1_turnTo_22 (by omega) ?_
      refine k_Vi F w (As := [.int (zI (t - 1))]) (rest := []) (a := a) (kd_lt (a := a) hka (by decide)) (sh_9 hka _ _) rfl (q_X9_kindOf (a := a) hka (t := (t - 1)) (by omega)  hI) gv_X1_94 hv_X9_kindOf ⟨(Nat.le_of_ble_eq_true rfl), (Nat.le_of_ble_eq_true rfl)⟩ hl.1 rfl (Nat.le_of_ble_eq_true rfl) ⟨Nat.zero_le _, Nat.zero_le _⟩ dX1_turnTo_23 (fun r6 N7 H locs hp w => ?_)
      obtain ⟨z8, rfl, bz8, hMN7⟩ := hp
      rw [hMN7] at w
      refine lv_iload hx hb dX1_turnTo_26 (lv_at hl 0 rfl) ?_
      refine z_icmp_eq (tgt := 33) hx hb (by omega) (by omega) dX1_turnTo_28 (by decide) (fun c9 => ?_) (fun c9 => ?_)
      · refine lv_aload_n hx hb dX1_turnTo_33 rfl (lv_at hl 2 rfl) ?_
        refine f_9_4 F w (a := a) hka tb_85 dX1_turnTo_34 ?_
        refine lv_iload_n hx hb dX1_turnTo_37 rfl (lv_at hl 3 rfl) ?_
        refine lv_iload_n hx hb dX1_turnTo_38 rfl (lv_at hl 4 rfl) ?_
        refine g_iast F w (a := (a + 1)) (kd_w1 hka) (j := (Int.toNat t)) (ix_z (by omega) (by omega)) (by omega) dX1_turnTo_39 (fun H locs w => ?_)
        refine lv_iconst (v := zI 1) hx hb dX1_turnTo_40 rfl ?_
        rw [hQ]
        exact e_i F w hr hlocks ⟨_, rfl, (by omega), (Inv.to hI (a := (a + 1)) (k := (Int.toNat t)) (x := x) (iv_wk hka _) (by omega)), (Fr.to hF (by first | omega | (dsimp only; first | done | omega)))⟩ dX1_turnTo_41
      · refine lv_iconst (v := zI 0) hx hb dX1_turnTo_31 rfl ?_
        rw [hQ]
        exact e_i F w hr hlocks ⟨_, rfl, (by omega), hI, hF⟩ dX1_turnTo_32
theorem dX1_passOverTones_0 : decode cX1_passOverTones 0 = .ok (.aload_n 1, 1) := wdX1_passOverTones_0
theorem dX1_passOverTones_1 : decode cX1_passOverTones 1 = .ok (.getfield 15, 3) := wdX1_passOverTones_1
theorem dX1_passOverTones_4 : decode cX1_passOverTones 4 = .ok (.iconst 0, 1) := wdX1_passOverTones_4
theorem dX1_passOverTones_5 : decode cX1_passOverTones 5 = .ok (.iaload, 1) := wdX1_passOverTones_5
theorem dX1_passOverTones_6 : decode cX1_passOverTones 6 = .ok (.istore_n 3, 1) := wdX1_passOverTones_6
theorem dX1_passOverTones_7 : decode cX1_passOverTones 7 = .ok (.aload_n 1, 1) := wdX1_passOverTones_7
theorem dX1_passOverTones_8 : decode cX1_passOverTones 8 = .ok (.getfield 15, 3) := wdX1_passOverTones_8
theorem dX1_passOverTones_11 : decode cX1_passOverTones 11 = .ok (.iconst 3, 1) := wdX1_passOverTones_11
theorem dX1_passOverTones_12 : decode cX1_passOverTones 12 = .ok (.iaload, 1) := wdX1_passOverTones_12
theorem dX1_passOverTones_13 : decode cX1_passOverTones 13 = .ok (.istore 4, 2) := wdX1_passOverTones_13
theorem dX1_passOverTones_15 : decode cX1_passOverTones 15 = .ok (.aload_n 1, 1) := wdX1_passOverTones_15
theorem dX1_passOverTones_16 : decode cX1_passOverTones 16 = .ok (.getfield 15, 3) := wdX1_passOverTones_16
theorem dX1_passOverTones_19 : decode cX1_passOverTones 19 = .ok (.iconst 4, 1) := wdX1_passOverTones_19
theorem dX1_passOverTones_20 : decode cX1_passOverTones 20 = .ok (.iaload, 1) := wdX1_passOverTones_20
theorem dX1_passOverTones_21 : decode cX1_passOverTones 21 = .ok (.iconst 1, 1) := wdX1_passOverTones_21
theorem dX1_passOverTones_22 : decode cX1_passOverTones 22 = .ok (.if_icmp .ne 7, 3) := wdX1_passOverTones_22
theorem dX1_passOverTones_29 : decode cX1_passOverTones 29 = .ok (.iconst 0, 1) := wdX1_passOverTones_29
theorem dX1_passOverTones_30 : decode cX1_passOverTones 30 = .ok (.istore 5, 2) := wdX1_passOverTones_30
theorem dX1_passOverTones_32 : decode cX1_passOverTones 32 = .ok (.aload_n 1, 1) := wdX1_passOverTones_32
theorem dX1_passOverTones_33 : decode cX1_passOverTones 33 = .ok (.invokevirtual 90, 3) := wdX1_passOverTones_33
theorem tk_X4_goesLeft : Cond.code yX4_goesLeft cX4_goesLeft 2 (some .boolean) ∈ TB := wtk_X4_goesLeft
theorem gc_X4_goesLeft : GoodIn TB (cw yX4_goesLeft cX4_goesLeft 2 (some .boolean)) := goodIn_c2 tk_X4_goesLeft
theorem tb_133 : Cond.methodLink "ToneLines$Doer" 90 yX4_goesLeft ∈ TB := wtb_68
theorem tb_134 : Cond.instanceMethod yX4_goesLeft ∈ TB := wtb_69
theorem tb_135 : Cond.selects "ToneLines$Rule" yX4_goesLeft yX4_goesLeft ∈ TB := wtb_70
theorem gv_X1_90 : GoodIn TB (wsV RX1 90 RX4 yX4_goesLeft (cw yX4_goesLeft cX4_goesLeft 2 (some .boolean))) := goodIn_4 tb_133 tb_134 tb_135 tb_121 gc_X4_goesLeft
theorem hv_X4_goesLeft : yX4_goesLeft.cls = RX4 ∧ yX4_goesLeft.cls ≠ "java/lang/invoke/MethodHandle" ∧ yX4_goesLeft.cls ≠ "java/lang/invoke/VarHandle" ∧ (parseMethodDescriptor yX4_goesLeft.desc).map (fun d => d.parameters.length) = some 0 := whv_X4_goesLeft
theorem dX1_passOverTones_36 : decode cX1_passOverTones 36 = .ok (.istore 6, 2) := wdX1_passOverTones_36
theorem dX1_passOverTones_38 : decode cX1_passOverTones 38 = .ok (.aload_n 2, 1) := wdX1_passOverTones_38
theorem dX1_passOverTones_39 : decode cX1_passOverTones 39 = .ok (.getfield 53, 3) := wdX1_passOverTones_39
theorem dX1_passOverTones_42 : decode cX1_passOverTones 42 = .ok (.istore 7, 2) := wdX1_passOverTones_42
theorem dX1_passOverTones_44 : decode cX1_passOverTones 44 = .ok (.iload 6, 2) := wdX1_passOverTones_44
theorem dX1_passOverTones_46 : decode cX1_passOverTones 46 = .ok (.ifCond .eq 10, 3) := wdX1_passOverTones_46
theorem dX1_passOverTones_56 : decode cX1_passOverTones 56 = .ok (.iconst 0, 1) := wdX1_passOverTones_56
theorem dX1_passOverTones_57 : decode cX1_passOverTones 57 = .ok (.istore 8, 2) := wdX1_passOverTones_57
theorem dX1_passOverTones_59 : decode cX1_passOverTones 59 = .ok (.iconst 0, 1) := wdX1_passOverTones_59
theorem dX1_passOverTones_60 : decode cX1_passOverTones 60 = .ok (.istore 9, 2) := wdX1_passOverTones_60
theorem dX1_passOverTones_62 : decode cX1_passOverTones 62 = .ok (.iconst 0, 1) := wdX1_passOverTones_62
theorem dX1_passOverTones_63 : decode cX1_passOverTones 63 = .ok (.istore 10, 2) := wdX1_passOverTones_63
theorem dX1_passOverTones_65 : decode cX1_passOverTones 65 = .ok (.iload 10, 2) := wdX1_passOverTones_65
theorem dX1_passOverTones_67 : decode cX1_passOverTones 67 = .ok (.iload 7, 2) := wdX1_passOverTones_67
theorem dX1_passOverTones_69 : decode cX1_passOverTones 69 = .ok (.if_icmp .ge 246, 3) := wdX1_passOverTones_69
theorem dX1_passOverTones_315 : decode cX1_passOverTones 315 = .ok (.iload 9, 2) := wdX1_passOverTones_315
theorem dX1_passOverTones_317 : decode cX1_passOverTones 317 = .ok (.ireturn, 1) := wdX1_passOverTones_317
theorem dX1_passOverTones_72 : decode cX1_passOverTones 72 = .ok (.aload_n 2, 1) := wdX1_passOverTones_72
theorem dX1_passOverTones_73 : decode cX1_passOverTones 73 = .ok (.iload 8, 2) := wdX1_passOverTones_73
theorem dX1_passOverTones_75 : decode cX1_passOverTones 75 = .ok (.invokevirtual 47, 3) := wdX1_passOverTones_75
theorem dX1_passOverTones_78 : decode cX1_passOverTones 78 = .ok (.ifCond .eq 237, 3) := wdX1_passOverTones_78
theorem dX1_passOverTones_81 : decode cX1_passOverTones 81 = .ok (.iconst 0, 1) := wdX1_passOverTones_81
theorem dX1_passOverTones_82 : decode cX1_passOverTones 82 = .ok (.istore 11, 2) := wdX1_passOverTones_82
theorem dX1_passOverTones_84 : decode cX1_passOverTones 84 = .ok (.aload_n 1, 1) := wdX1_passOverTones_84
theorem dX1_passOverTones_85 : decode cX1_passOverTones 85 = .ok (.aload_n 2, 1) := wdX1_passOverTones_85
theorem dX1_passOverTones_86 : decode cX1_passOverTones 86 = .ok (.iload 8, 2) := wdX1_passOverTones_86
theorem dX1_passOverTones_88 : decode cX1_passOverTones 88 = .ok (.invokevirtual 94, 3) := wdX1_passOverTones_88
theorem dX1_passOverTones_91 : decode cX1_passOverTones 91 = .ok (.invokevirtual 97, 3) := wdX1_passOverTones_91
theorem tk_X4_isOf : Cond.code yX4_isOf cX4_isOf 2 (some .boolean) ∈ TB := wtk_X4_isOf
theorem gc_X4_isOf : GoodIn TB (cw yX4_isOf cX4_isOf 2 (some .boolean)) := goodIn_c2 tk_X4_isOf
theorem tb_136 : Cond.methodLink "ToneLines$Doer" 97 yX4_isOf ∈ TB := wtb_59
theorem tb_137 : Cond.instanceMethod yX4_isOf ∈ TB := wtb_60
theorem tb_138 : Cond.selects "ToneLines$Rule" yX4_isOf yX4_isOf ∈ TB := wtb_61
theorem gv_X1_97 : GoodIn TB (wsV RX1 97 RX4 yX4_isOf (cw yX4_isOf cX4_isOf 2 (some .boolean))) := goodIn_4 tb_136 tb_137 tb_138 tb_121 gc_X4_isOf
theorem hv_X4_isOf : yX4_isOf.cls = RX4 ∧ yX4_isOf.cls ≠ "java/lang/invoke/MethodHandle" ∧ yX4_isOf.cls ≠ "java/lang/invoke/VarHandle" ∧ (parseMethodDescriptor yX4_isOf.desc).map (fun d => d.parameters.length) = some 1 := whv_X4_isOf
theorem dX1_passOverTones_94 : decode cX1_passOverTones 94 = .ok (.ifCond .eq 155, 3) := wdX1_passOverTones_94
theorem dX1_passOverTones_249 : decode cX1_passOverTones 249 = .ok (.iload_n 3, 1) := wdX1_passOverTones_249
theorem dX1_passOverTones_250 : decode cX1_passOverTones 250 = .ok (.iconst 2, 1) := wdX1_passOverTones_250
theorem dX1_passOverTones_251 : decode cX1_passOverTones 251 = .ok (.if_icmp .ne 22, 3) := wdX1_passOverTones_251
theorem dX1_passOverTones_273 : decode cX1_passOverTones 273 = .ok (.iload 9, 2) := wdX1_passOverTones_273
theorem dX1_passOverTones_275 : decode cX1_passOverTones 275 = .ok (.iload 11, 2) := wdX1_passOverTones_275
theorem dX1_passOverTones_277 : decode cX1_passOverTones 277 = .ok (.iadd, 1) := wdX1_passOverTones_277
theorem dX1_passOverTones_278 : decode cX1_passOverTones 278 = .ok (.istore 9, 2) := wdX1_passOverTones_278
theorem dX1_passOverTones_280 : decode cX1_passOverTones 280 = .ok (.iload 8, 2) := wdX1_passOverTones_280
theorem dX1_passOverTones_282 : decode cX1_passOverTones 282 = .ok (.iload 6, 2) := wdX1_passOverTones_282
theorem dX1_passOverTones_284 : decode cX1_passOverTones 284 = .ok (.ifCond .eq 7, 3) := wdX1_passOverTones_284
theorem dX1_passOverTones_291 : decode cX1_passOverTones 291 = .ok (.iload_n 3, 1) := wdX1_passOverTones_291
theorem dX1_passOverTones_292 : decode cX1_passOverTones 292 = .ok (.iconst 5, 1) := wdX1_passOverTones_292
theorem dX1_passOverTones_293 : decode cX1_passOverTones 293 = .ok (.if_icmp .ne 12, 3) := wdX1_passOverTones_293
theorem dX1_passOverTones_305 : decode cX1_passOverTones 305 = .ok (.iconst 1, 1) := wdX1_passOverTones_305
theorem dX1_passOverTones_306 : decode cX1_passOverTones 306 = .ok (.iadd, 1) := wdX1_passOverTones_306
theorem dX1_passOverTones_307 : decode cX1_passOverTones 307 = .ok (.istore 8, 2) := wdX1_passOverTones_307
theorem dX1_passOverTones_309 : decode cX1_passOverTones 309 = .ok (.iinc 10 1, 3) := wdX1_passOverTones_309
theorem dX1_passOverTones_312 : decode cX1_passOverTones 312 = .ok (.goto (-247), 3) := wdX1_passOverTones_312
theorem dX1_passOverTones_296 : decode cX1_passOverTones 296 = .ok (.iload 11, 2) := wdX1_passOverTones_296
theorem dX1_passOverTones_298 : decode cX1_passOverTones 298 = .ok (.ifCond .le 7, 3) := wdX1_passOverTones_298
theorem dX1_passOverTones_254 : decode cX1_passOverTones 254 = .ok (.iload 11, 2) := wdX1_passOverTones_254
theorem dX1_passOverTones_256 : decode cX1_passOverTones 256 = .ok (.ifCond .le 17, 3) := wdX1_passOverTones_256
theorem dX1_passOverTones_97 : decode cX1_passOverTones 97 = .ok (.aload_n 1, 1) := wdX1_passOverTones_97
theorem dX1_passOverTones_98 : decode cX1_passOverTones 98 = .ok (.aload_n 2, 1) := wdX1_passOverTones_98
theorem dX1_passOverTones_99 : decode cX1_passOverTones 99 = .ok (.iload 8, 2) := wdX1_passOverTones_99
theorem dX1_passOverTones_101 : decode cX1_passOverTones 101 = .ok (.invokevirtual 100, 3) := wdX1_passOverTones_101
theorem tk_X4_admits : Cond.code yX4_admits cX4_admits 5 (some .boolean) ∈ TB := wtk_X4_admits
theorem gc_X4_admits : GoodIn TB (cw yX4_admits cX4_admits 5 (some .boolean)) := goodIn_c2 tk_X4_admits
theorem tb_139 : Cond.methodLink "ToneLines$Doer" 100 yX4_admits ∈ TB := wtb_62
theorem tb_140 : Cond.instanceMethod yX4_admits ∈ TB := wtb_63
theorem tb_141 : Cond.selects "ToneLines$Rule" yX4_admits yX4_admits ∈ TB := wtb_64
theorem gv_X1_100 : GoodIn TB (wsV RX1 100 RX4 yX4_admits (cw yX4_admits cX4_admits 5 (some .boolean))) := goodIn_4 tb_139 tb_140 tb_141 tb_121 gc_X4_admits
theorem hv_X4_admits : yX4_admits.cls = RX4 ∧ yX4_admits.cls ≠ "java/lang/invoke/MethodHandle" ∧ yX4_admits.cls ≠ "java/lang/invoke/VarHandle" ∧ (parseMethodDescriptor yX4_admits.desc).map (fun d => d.parameters.length) = some 2 := whv_X4_admits
theorem dX1_passOverTones_104 : decode cX1_passOverTones 104 = .ok (.ifCond .eq 145, 3) := wdX1_passOverTones_104
theorem dX1_passOverTones_107 : decode cX1_passOverTones 107 = .ok (.iload_n 3, 1) := wdX1_passOverTones_107
theorem dX1_passOverTones_108 : decode cX1_passOverTones 108 = .ok (.tableswitch 141 1 7 #[44, 60, 75, 89, 103, 115, 127], 44) := wdX1_passOverTones_108
theorem dX1_passOverTones_152 : decode cX1_passOverTones 152 = .ok (.aload_n 0, 1) := wdX1_passOverTones_152
theorem dX1_passOverTones_153 : decode cX1_passOverTones 153 = .ok (.aload_n 2, 1) := wdX1_passOverTones_153
theorem dX1_passOverTones_154 : decode cX1_passOverTones 154 = .ok (.iload 8, 2) := wdX1_passOverTones_154
theorem dX1_passOverTones_156 : decode cX1_passOverTones 156 = .ok (.iload 6, 2) := wdX1_passOverTones_156
theorem dX1_passOverTones_158 : decode cX1_passOverTones 158 = .ok (.iload 4, 2) := wdX1_passOverTones_158
theorem dX1_passOverTones_160 : decode cX1_passOverTones 160 = .ok (.invokevirtual 104, 3) := wdX1_passOverTones_160
theorem tk_X1_spread : Cond.code yX1_spread cX1_spread 10 (some .int) ∈ TB := wtk_X1_spread
theorem gc_X1_spread : GoodIn TB (cw yX1_spread cX1_spread 10 (some .int)) := goodIn_c2 tk_X1_spread
theorem tb_142 : Cond.methodLink "ToneLines$Doer" 104 yX1_spread ∈ TB := wtb_65
theorem tb_143 : Cond.instanceMethod yX1_spread ∈ TB := wtb_66
theorem tb_144 : Cond.selects "ToneLines$Doer" yX1_spread yX1_spread ∈ TB := wtb_67
theorem gv_X1_104 : GoodIn TB (wsV RX1 104 RX1 yX1_spread (cw yX1_spread cX1_spread 10 (some .int))) := goodIn_4 tb_142 tb_143 tb_144 tb_76 gc_X1_spread
theorem hv_X1_spread : yX1_spread.cls = RX1 ∧ yX1_spread.cls ≠ "java/lang/invoke/MethodHandle" ∧ yX1_spread.cls ≠ "java/lang/invoke/VarHandle" ∧ (parseMethodDescriptor yX1_spread.desc).map (fun d => d.parameters.length) = some 4 := whv_X1_spread
theorem dX1_passOverTones_163 : decode cX1_passOverTones 163 = .ok (.istore 11, 2) := wdX1_passOverTones_163
theorem dX1_passOverTones_165 : decode cX1_passOverTones 165 = .ok (.goto 84, 3) := wdX1_passOverTones_165
theorem dX1_passOverTones_168 : decode cX1_passOverTones 168 = .ok (.aload_n 0, 1) := wdX1_passOverTones_168
theorem dX1_passOverTones_169 : decode cX1_passOverTones 169 = .ok (.aload_n 2, 1) := wdX1_passOverTones_169
theorem dX1_passOverTones_170 : decode cX1_passOverTones 170 = .ok (.iload 8, 2) := wdX1_passOverTones_170
theorem dX1_passOverTones_172 : decode cX1_passOverTones 172 = .ok (.iload 6, 2) := wdX1_passOverTones_172
theorem dX1_passOverTones_174 : decode cX1_passOverTones 174 = .ok (.iconst 1, 1) := wdX1_passOverTones_174
theorem dX1_passOverTones_175 : decode cX1_passOverTones 175 = .ok (.invokevirtual 104, 3) := wdX1_passOverTones_175
theorem dX1_passOverTones_178 : decode cX1_passOverTones 178 = .ok (.istore 11, 2) := wdX1_passOverTones_178
theorem dX1_passOverTones_180 : decode cX1_passOverTones 180 = .ok (.goto 69, 3) := wdX1_passOverTones_180
theorem dX1_passOverTones_259 : decode cX1_passOverTones 259 = .ok (.iload 11, 2) := wdX1_passOverTones_259
theorem dX1_passOverTones_261 : decode cX1_passOverTones 261 = .ok (.aload_n 0, 1) := wdX1_passOverTones_261
theorem dX1_passOverTones_262 : decode cX1_passOverTones 262 = .ok (.aload_n 2, 1) := wdX1_passOverTones_262
theorem dX1_passOverTones_263 : decode cX1_passOverTones 263 = .ok (.iload 8, 2) := wdX1_passOverTones_263
theorem dX1_passOverTones_265 : decode cX1_passOverTones 265 = .ok (.iload 6, 2) := wdX1_passOverTones_265
theorem dX1_passOverTones_267 : decode cX1_passOverTones 267 = .ok (.invokevirtual 124, 3) := wdX1_passOverTones_267
theorem tk_X1_leave : Cond.code yX1_leave cX1_leave 7 (some .int) ∈ TB := wtk_X1_leave
theorem gc_X1_leave : GoodIn TB (cw yX1_leave cX1_leave 7 (some .int)) := goodIn_c2 tk_X1_leave
theorem tb_145 : Cond.methodLink "ToneLines$Doer" 124 yX1_leave ∈ TB := wtb_71
theorem tb_146 : Cond.instanceMethod yX1_leave ∈ TB := wtb_72
theorem tb_147 : Cond.selects "ToneLines$Doer" yX1_leave yX1_leave ∈ TB := wtb_73
theorem gv_X1_124 : GoodIn TB (wsV RX1 124 RX1 yX1_leave (cw yX1_leave cX1_leave 7 (some .int))) := goodIn_4 tb_145 tb_146 tb_147 tb_76 gc_X1_leave
theorem hv_X1_leave : yX1_leave.cls = RX1 ∧ yX1_leave.cls ≠ "java/lang/invoke/MethodHandle" ∧ yX1_leave.cls ≠ "java/lang/invoke/VarHandle" ∧ (parseMethodDescriptor yX1_leave.desc).map (fun d => d.parameters.length) = some 3 := whv_X1_leave
theorem dX1_passOverTones_270 : decode cX1_passOverTones 270 = .ok (.iadd, 1) := wdX1_passOverTones_270
theorem dX1_passOverTones_271 : decode cX1_passOverTones 271 = .ok (.istore 11, 2) := wdX1_passOverTones_271
theorem dX1_passOverTones_183 : decode cX1_passOverTones 183 = .ok (.aload_n 0, 1) := wdX1_passOverTones_183
theorem dX1_passOverTones_184 : decode cX1_passOverTones 184 = .ok (.aload_n 2, 1) := wdX1_passOverTones_184
theorem dX1_passOverTones_185 : decode cX1_passOverTones 185 = .ok (.iload 8, 2) := wdX1_passOverTones_185
theorem dX1_passOverTones_187 : decode cX1_passOverTones 187 = .ok (.iload 5, 2) := wdX1_passOverTones_187
theorem dX1_passOverTones_189 : decode cX1_passOverTones 189 = .ok (.invokevirtual 108, 3) := wdX1_passOverTones_189
theorem tk_X1_cutOff : Cond.code yX1_cutOff cX1_cutOff 5 (some .int) ∈ TB := wtk_X1_cutOff
theorem gc_X1_cutOff : GoodIn TB (cw yX1_cutOff cX1_cutOff 5 (some .int)) := goodIn_c2 tk_X1_cutOff
theorem tb_148 : Cond.methodLink "ToneLines$Doer" 108 yX1_cutOff ∈ TB := wtb_74
theorem tb_149 : Cond.instanceMethod yX1_cutOff ∈ TB := wtb_75
theorem tb_150 : Cond.selects "ToneLines$Doer" yX1_cutOff yX1_cutOff ∈ TB := wtb_76
theorem gv_X1_108 : GoodIn TB (wsV RX1 108 RX1 yX1_cutOff (cw yX1_cutOff cX1_cutOff 5 (some .int))) := goodIn_4 tb_148 tb_149 tb_150 tb_76 gc_X1_cutOff
theorem hv_X1_cutOff : yX1_cutOff.cls = RX1 ∧ yX1_cutOff.cls ≠ "java/lang/invoke/MethodHandle" ∧ yX1_cutOff.cls ≠ "java/lang/invoke/VarHandle" ∧ (parseMethodDescriptor yX1_cutOff.desc).map (fun d => d.parameters.length) = some 3 := whv_X1_cutOff
theorem dX1_passOverTones_192 : decode cX1_passOverTones 192 = .ok (.istore 11, 2) := wdX1_passOverTones_192
theorem dX1_passOverTones_194 : decode cX1_passOverTones 194 = .ok (.goto 55, 3) := wdX1_passOverTones_194
theorem dX1_passOverTones_197 : decode cX1_passOverTones 197 = .ok (.aload_n 0, 1) := wdX1_passOverTones_197
theorem dX1_passOverTones_198 : decode cX1_passOverTones 198 = .ok (.aload_n 2, 1) := wdX1_passOverTones_198
theorem dX1_passOverTones_199 : decode cX1_passOverTones 199 = .ok (.iload 8, 2) := wdX1_passOverTones_199
theorem dX1_passOverTones_201 : decode cX1_passOverTones 201 = .ok (.iload 6, 2) := wdX1_passOverTones_201
theorem dX1_passOverTones_203 : decode cX1_passOverTones 203 = .ok (.invokevirtual 111, 3) := wdX1_passOverTones_203
theorem tk_X1_dock : Cond.code yX1_dock cX1_dock 7 (some .int) ∈ TB := wtk_X1_dock
theorem gc_X1_dock : GoodIn TB (cw yX1_dock cX1_dock 7 (some .int)) := goodIn_c2 tk_X1_dock
theorem tb_151 : Cond.methodLink "ToneLines$Doer" 111 yX1_dock ∈ TB := wtb_77
theorem tb_152 : Cond.instanceMethod yX1_dock ∈ TB := wtb_78
theorem tb_153 : Cond.selects "ToneLines$Doer" yX1_dock yX1_dock ∈ TB := wtb_79
theorem gv_X1_111 : GoodIn TB (wsV RX1 111 RX1 yX1_dock (cw yX1_dock cX1_dock 7 (some .int))) := goodIn_4 tb_151 tb_152 tb_153 tb_76 gc_X1_dock
theorem hv_X1_dock : yX1_dock.cls = RX1 ∧ yX1_dock.cls ≠ "java/lang/invoke/MethodHandle" ∧ yX1_dock.cls ≠ "java/lang/invoke/VarHandle" ∧ (parseMethodDescriptor yX1_dock.desc).map (fun d => d.parameters.length) = some 3 := whv_X1_dock
theorem dX1_passOverTones_206 : decode cX1_passOverTones 206 = .ok (.istore 11, 2) := wdX1_passOverTones_206
theorem dX1_passOverTones_208 : decode cX1_passOverTones 208 = .ok (.goto 41, 3) := wdX1_passOverTones_208
theorem dX1_passOverTones_211 : decode cX1_passOverTones 211 = .ok (.aload_n 0, 1) := wdX1_passOverTones_211
theorem dX1_passOverTones_212 : decode cX1_passOverTones 212 = .ok (.aload_n 2, 1) := wdX1_passOverTones_212
theorem dX1_passOverTones_213 : decode cX1_passOverTones 213 = .ok (.iload 8, 2) := wdX1_passOverTones_213
theorem dX1_passOverTones_215 : decode cX1_passOverTones 215 = .ok (.invokevirtual 114, 3) := wdX1_passOverTones_215
theorem tk_X1_drop : Cond.code yX1_drop cX1_drop 3 (some .int) ∈ TB := wtk_X1_drop
theorem gc_X1_drop : GoodIn TB (cw yX1_drop cX1_drop 3 (some .int)) := goodIn_c2 tk_X1_drop
theorem tb_154 : Cond.methodLink "ToneLines$Doer" 114 yX1_drop ∈ TB := wtb_80
theorem tb_155 : Cond.instanceMethod yX1_drop ∈ TB := wtb_81
theorem tb_156 : Cond.selects "ToneLines$Doer" yX1_drop yX1_drop ∈ TB := wtb_82
theorem gv_X1_114 : GoodIn TB (wsV RX1 114 RX1 yX1_drop (cw yX1_drop cX1_drop 3 (some .int))) := goodIn_4 tb_154 tb_155 tb_156 tb_76 gc_X1_drop
theorem hv_X1_drop : yX1_drop.cls = RX1 ∧ yX1_drop.cls ≠ "java/lang/invoke/MethodHandle" ∧ yX1_drop.cls ≠ "java/lang/invoke/VarHandle" ∧ (parseMethodDescriptor yX1_drop.desc).map (fun d => d.parameters.length) = some 2 := whv_X1_drop
theorem dX1_passOverTones_218 : decode cX1_passOverTones 218 = .ok (.istore 11, 2) := wdX1_passOverTones_218
theorem dX1_passOverTones_220 : decode cX1_passOverTones 220 = .ok (.goto 29, 3) := wdX1_passOverTones_220
theorem dX1_passOverTones_301 : decode cX1_passOverTones 301 = .ok (.iconst 0, 1) := wdX1_passOverTones_301
theorem dX1_passOverTones_302 : decode cX1_passOverTones 302 = .ok (.goto 4, 3) := wdX1_passOverTones_302
theorem dX1_passOverTones_223 : decode cX1_passOverTones 223 = .ok (.aload_n 0, 1) := wdX1_passOverTones_223
theorem dX1_passOverTones_224 : decode cX1_passOverTones 224 = .ok (.aload_n 2, 1) := wdX1_passOverTones_224
theorem dX1_passOverTones_225 : decode cX1_passOverTones 225 = .ok (.iload 8, 2) := wdX1_passOverTones_225
theorem dX1_passOverTones_227 : decode cX1_passOverTones 227 = .ok (.invokevirtual 117, 3) := wdX1_passOverTones_227
theorem tk_X1_fuse : Cond.code yX1_fuse cX1_fuse 6 (some .int) ∈ TB := wtk_X1_fuse
theorem gc_X1_fuse : GoodIn TB (cw yX1_fuse cX1_fuse 6 (some .int)) := goodIn_c2 tk_X1_fuse
theorem tb_157 : Cond.methodLink "ToneLines$Doer" 117 yX1_fuse ∈ TB := wtb_83
theorem tb_158 : Cond.instanceMethod yX1_fuse ∈ TB := wtb_84
theorem tb_159 : Cond.selects "ToneLines$Doer" yX1_fuse yX1_fuse ∈ TB := wtb_85
theorem gv_X1_117 : GoodIn TB (wsV RX1 117 RX1 yX1_fuse (cw yX1_fuse cX1_fuse 6 (some .int))) := goodIn_4 tb_157 tb_158 tb_159 tb_76 gc_X1_fuse
theorem hv_X1_fuse : yX1_fuse.cls = RX1 ∧ yX1_fuse.cls ≠ "java/lang/invoke/MethodHandle" ∧ yX1_fuse.cls ≠ "java/lang/invoke/VarHandle" ∧ (parseMethodDescriptor yX1_fuse.desc).map (fun d => d.parameters.length) = some 2 := whv_X1_fuse
theorem dX1_passOverTones_230 : decode cX1_passOverTones 230 = .ok (.istore 11, 2) := wdX1_passOverTones_230
theorem dX1_passOverTones_232 : decode cX1_passOverTones 232 = .ok (.goto 17, 3) := wdX1_passOverTones_232
theorem dX1_passOverTones_235 : decode cX1_passOverTones 235 = .ok (.aload_n 0, 1) := wdX1_passOverTones_235
theorem dX1_passOverTones_236 : decode cX1_passOverTones 236 = .ok (.aload_n 2, 1) := wdX1_passOverTones_236
theorem dX1_passOverTones_237 : decode cX1_passOverTones 237 = .ok (.iload 8, 2) := wdX1_passOverTones_237
theorem dX1_passOverTones_239 : decode cX1_passOverTones 239 = .ok (.iload 4, 2) := wdX1_passOverTones_239
theorem dX1_passOverTones_241 : decode cX1_passOverTones 241 = .ok (.invokevirtual 120, 3) := wdX1_passOverTones_241
theorem tk_X1_turnTo : Cond.code yX1_turnTo cX1_turnTo 5 (some .int) ∈ TB := wtk_X1_turnTo
theorem gc_X1_turnTo : GoodIn TB (cw yX1_turnTo cX1_turnTo 5 (some .int)) := goodIn_c2 tk_X1_turnTo
theorem tb_160 : Cond.methodLink "ToneLines$Doer" 120 yX1_turnTo ∈ TB := wtb_86
theorem tb_161 : Cond.instanceMethod yX1_turnTo ∈ TB := wtb_87
theorem tb_162 : Cond.selects "ToneLines$Doer" yX1_turnTo yX1_turnTo ∈ TB := wtb_88
theorem gv_X1_120 : GoodIn TB (wsV RX1 120 RX1 yX1_turnTo (cw yX1_turnTo cX1_turnTo 5 (some .int))) := goodIn_4 tb_160 tb_161 tb_162 tb_76 gc_X1_turnTo
theorem hv_X1_turnTo : yX1_turnTo.cls = RX1 ∧ yX1_turnTo.cls ≠ "java/lang/invoke/MethodHandle" ∧ yX1_turnTo.cls ≠ "java/lang/invoke/VarHandle" ∧ (parseMethodDescriptor yX1_turnTo.desc).map (fun d => d.parameters.length) = some 3 := whv_X1_turnTo
theorem dX1_passOverTones_244 : decode cX1_passOverTones 244 = .ok (.istore 11, 2) := wdX1_passOverTones_244
theorem dX1_passOverTones_246 : decode cX1_passOverTones 246 = .ok (.goto 3, 3) := wdX1_passOverTones_246
theorem dX1_passOverTones_49 : decode cX1_passOverTones 49 = .ok (.iload 7, 2) := wdX1_passOverTones_49
theorem dX1_passOverTones_51 : decode cX1_passOverTones 51 = .ok (.iconst 1, 1) := wdX1_passOverTones_51
theorem dX1_passOverTones_52 : decode cX1_passOverTones 52 = .ok (.isub, 1) := wdX1_passOverTones_52
theorem dX1_passOverTones_53 : decode cX1_passOverTones 53 = .ok (.goto 4, 3) := wdX1_passOverTones_53
theorem dX1_passOverTones_287 : decode cX1_passOverTones 287 = .ok (.iconst (-1), 1) := wdX1_passOverTones_287
theorem dX1_passOverTones_288 : decode cX1_passOverTones 288 = .ok (.goto 18, 3) := wdX1_passOverTones_288
theorem dX1_passOverTones_25 : decode cX1_passOverTones 25 = .ok (.iconst 1, 1) := wdX1_passOverTones_25
theorem dX1_passOverTones_26 : decode cX1_passOverTones 26 = .ok (.goto 4, 3) := wdX1_passOverTones_26
set_option maxHeartbeats 4000000 in
set_option maxRecDepth 4000 in
theorem q_X1_passOverTones {l : Launch} {D : va_G} {B : Nat} {cy : Nat → ClassId} {M : Mem} {u1 : Nat} (hku1 : kd u1 = (4, 0, 0)) {a : Nat} (hka : kd a = (9, 0, 0)) (hI : Inv M) : Ci l D B cy yX1_passOverTones cX1_passOverTones 12 (some .int) 3 77 [.ref (B + 23), .ref (B + u1), .ref (B + a)] M (fun r M1 => ∃ z : Int, r = zI z ∧ ((-2147483648) ≤ z ∧ z ≤ 2147483647) ∧ Inv M1 ∧ Fr (fun b9 k9 => b9 = (a + 1) ∨ b9 = (a + 2) ∨ b9 = a) M1 M) := by
  refine s_anyQ (by decide) (Nat.le_of_ble_eq_true rfl) ?_
  intro p e s m args below meth c ls Q F hr hlocks hQ w hl
  have F : CallFix p m c cX1_passOverTones 12 s args TB RX1 := F
  have hx := F.1
  have hb := F.2.1
  have hl : lv_has ls 12 [(0, .ref (B + 23)), (1, .ref (B + u1)), (2, .ref (B + a))] := hl
  have hF : Fr (fun b9 k9 => b9 = (a + 1) ∨ b9 = (a + 2) ∨ b9 = a) M M := Fr.rf
  refine lv_aload_n hx hb dX1_passOverTones_0 rfl (lv_at hl 1 rfl) ?_
  refine f_4_0 F w (a := u1) hku1 tb_79 dX1_passOverTones_1 ?_
  refine lv_iconst (v := zI 0) hx hb dX1_passOverTones_4 rfl ?_
  refine g_iald F w (a := (u1 + 1)) (iv_u hku1).2.2 (j := 0) ⟨by decide, by decide⟩ (by omega) dX1_passOverTones_5 ?_
  obtain ⟨z1, bz1, ez1⟩ := Inv.ld (k := 0) hI (iv_up hku1 _) (by have := lt_u hku1; omega)
  refine r_val ez1 ?_
  refine lv_istore_n (lv' := [(3, .int (zI z1)), (0, .ref (B + 23)), (1, .ref (B + u1)), (2, .ref (B + a))]) hx hb dX1_passOverTones_6 rfl hl (by decide) rfl (fun ls hl => ?_)
  refine lv_aload_n hx hb dX1_passOverTones_7 rfl (lv_at hl 2 rfl) ?_
  refine f_4_0 F w (a := u1) hku1 tb_79 dX1_passOverTones_8 ?_
  refine lv_iconst (v := zI 3) hx hb dX1_passOverTones_11 rfl ?_
  refine g_iald F w (a := (u1 + 1)) (iv_u hku1).2.2 (j := 3) ⟨by decide, by decide⟩ (by omega) dX1_passOverTones_12 ?_
  obtain ⟨z2, bz2, ez2⟩ := Inv.ld (k := 3) hI (iv_up hku1 _) (by have := lt_u hku1; omega)
  refine r_val ez2 ?_
  refine lv_istore (lv' := [(4, .int (zI z2)), (3, .int (zI z1)), (0, .ref (B + 23)), (1, .ref (B + u1)), (2, .ref (B + a))]) hx hb dX1_passOverTones_13 hl (by decide) rfl (fun ls hl => ?_)
  refine lv_aload_n hx hb dX1_passOverTones_15 rfl (lv_at hl 3 rfl) ?_
  refine f_4_0 F w (a := u1) hku1 tb_79 dX1_passOverTones_16 ?_
  refine lv_iconst (v := zI 4) hx hb dX1_passOverTones_19 rfl ?_
  refine g_iald F w (a := (u1 + 1)) (iv_u hku1).2.2 (j := 4) ⟨by decide, by decide⟩ (by omega) dX1_passOverTones_20 ?_
  obtain ⟨z3, bz3, ez3⟩ := Inv.ld (k := 4) hI (iv_up hku1 _) (by have := lt_u hku1; omega)
  refine r_val ez3 ?_
  have j32 : ∀ (o3 : Int), (0 ≤ o3 ∧ o3 ≤ 1) → ∀ (H : Heap) (locs : List Loc) (ls : Array Slot), Wd D B cy s s.heap M H locs → lv_has ls 12 [(5, .int (zI o3)), (4, .int (zI z2)), (3, .int (zI z1)), (0, .ref (B + 23)), (1, .ref (B + u1)), (2, .ref (B + a))] → W p l e (rmm 3 77) s m args below meth c H locs 0 0 Q (F0 m 32 ls []) := by
    intro o3 bo3 H locs ls w hl
    refine lv_aload_n hx hb dX1_passOverTones_32 rfl (lv_at hl 4 rfl) ?_
    refine k_Vi F w (As := []) (rest := []) (a := u1) (kd_lt (a := u1) hku1 (by decide)) (sh_4 hku1 _ _) rfl (q_X4_goesLeft (u1 := u1) hku1  hI) gv_X1_90 hv_X4_goesLeft ⟨(Nat.le_of_ble_eq_true rfl), (Nat.le_of_ble_eq_true rfl)⟩ hl.1 rfl (Nat.le_of_ble_eq_true rfl) ⟨Nat.zero_le _, Nat.zero_le _⟩ dX1_passOverTones_33 (fun r5 N6 H locs hp w => ?_)
    obtain ⟨z7, rfl, bz7, hMN6⟩ := hp
    rw [hMN6] at w
    refine lv_istore (lv' := [(6, .int (zI z7)), (5, .int (zI o3)), (4, .int (zI z2)), (3, .int (zI z1)), (0, .ref (B + 23)), (1, .ref (B + u1)), (2, .ref (B + a))]) hx hb dX1_passOverTones_36 hl (by decide) rfl (fun ls hl => ?_)
    refine lv_aload_n hx hb dX1_passOverTones_38 rfl (lv_at hl 6 rfl) ?_
    refine f_9_0 F w (a := a) hka tb_62 dX1_passOverTones_39 ?_
    obtain ⟨z8, bz8, ez8⟩ := Inv.ld (k := 0) hI (iv_w0 hka) (by have := lt_w hka; omega)
    refine r_val ez8 ?_
    refine lv_istore (lv' := [(7, .int (zI z8)), (6, .int (zI z7)), (5, .int (zI o3)), (4, .int (zI z2)), (3, .int (zI z1)), (0, .ref (B + 23)), (1, .ref (B + u1)), (2, .ref (B + a))]) hx hb dX1_passOverTones_42 hl (by decide) rfl (fun ls hl => ?_)
    refine lv_iload hx hb dX1_passOverTones_44 (lv_at hl 1 rfl) ?_
    refine z_if_eq (tgt := 56) hx hb (by omega) dX1_passOverTones_46 (by decide) (fun c9 => ?_) (fun c9 => ?_)
    · refine lv_iconst (v := zI 0) hx hb dX1_passOverTones_56 rfl ?_
      refine lv_istore (lv' := [(8, .int (zI 0)), (7, .int (zI z8)), (6, .int (zI z7)), (5, .int (zI o3)), (4, .int (zI z2)), (3, .int (zI z1)), (0, .ref (B + 23)), (1, .ref (B + u1)), (2, .ref (B + a))]) hx hb dX1_passOverTones_57 hl (by decide) rfl (fun ls hl => ?_)
      refine lv_iconst (v := zI 0) hx hb dX1_passOverTones_59 rfl ?_
      refine lv_istore (lv' := [(9, .int (zI 0)), (8, .int (zI 0)), (7, .int (zI z8)), (6, .int (zI z7)), (5, .int (zI o3)), (4, .int (zI z2)), (3, .int (zI z1)), (0, .ref (B + 23)), (1, .ref (B + u1)), (2, .ref (B + a))]) hx hb dX1_passOverTones_60 hl (by decide) rfl (fun ls hl => ?_)
      refine lv_iconst (v := zI 0) hx hb dX1_passOverTones_62 rfl ?_
      refine lv_istore (lv' := [(10, .int (zI 0)), (9, .int (zI 0)), (8, .int (zI 0)), (7, .int (zI z8)), (6, .int (zI z7)), (5, .int (zI o3)), (4, .int (zI z2)), (3, .int (zI z1)), (0, .ref (B + 23)), (1, .ref (B + u1)), (2, .ref (B + a))]) hx hb dX1_passOverTones_63 hl (by decide) rfl (fun ls hl => ?_)
      have lp65 : ∀ (f : Nat) (v10_65 : Int) (v9_65 : Int) (v8_65 : Int)  (NL65 : Mem), (0 ≤ v10_65 ∧ v10_65 ≤ 12) → ((-2147483648) ≤ v9_65 ∧ v9_65 ≤ 2147483647) → (0 ≤ v8_65 ∧ v8_65 ≤ 12) → Inv NL65 → Fr (fun b9 k9 => b9 = (a + 1) ∨ b9 = (a + 2) ∨ b9 = a) NL65 M → (Int.toNat (12 - v10_65) < f) → ∀ (H : Heap) (locs : List Loc) (ls : Array Slot), Wd D B cy s s.heap NL65 H locs → lv_has ls 12 [(10, .int (zI v10_65)), (9, .int (zI v9_65)), (8, .int (zI v8_65)), (7, .int (zI z8)), (6, .int (zI z7)), (5, .int (zI o3)), (4, .int (zI z2)), (3, .int (zI z1)), (0, .ref (B + 23)), (1, .ref (B + u1)), (2, .ref (B + a))] → W p l e (rmm 3 77) s m args below meth c H locs 0 0 Q (F0 m 65 ls []) := by
        intro f
        induction f with
        | zero => intros; omega
        | succ f ih65 =>
          intro v10_65 v9_65 v8_65  NL65 iv10_65 iv9_65 iv8_65 hIL65 hFL65 hf65 H locs ls w hl
          refine lv_iload hx hb dX1_passOverTones_65 (lv_at hl 0 rfl) ?_
          refine lv_iload hx hb dX1_passOverTones_67 (lv_at hl 3 rfl) ?_
          refine z_icmp_ge (tgt := 315) hx hb (by omega) (by omega) dX1_passOverTones_69 (by decide) (fun c10 => ?_) (fun c10 => ?_)
          · refine lv_iload hx hb dX1_passOverTones_315 (lv_at hl 1 rfl) ?_
            rw [hQ]
            exact e_i F w hr hlocks ⟨_, rfl, (by omega), hIL65, hFL65⟩ dX1_passOverTones_317
          · refine lv_aload_n hx hb dX1_passOverTones_72 rfl (lv_at hl 10 rfl) ?_
            refine lv_iload hx hb dX1_passOverTones_73 (lv_at hl 2 rfl) ?_
            obtain ⟨z11, bz11, ez11⟩ := Inv.ld (k := 0) hIL65 (iv_w0 hka) (by have := lt_w hka; omega)
            refine k_Vi F w (As := [.int (zI v8_65)]) (rest := []) (a := a) (kd_lt (a := a) hka (by decide)) (sh_9 hka _ _) rfl (q_X9_hasTone (a := a) hka (t := v8_65) (by omega) (nn := z11) (ez11) (by omega)  hIL65) gv_X1_47 hv_X9_hasTone ⟨(Nat.le_of_ble_eq_true rfl), (Nat.le_of_ble_eq_true rfl)⟩ hl.1 rfl (Nat.le_of_ble_eq_true rfl) ⟨Nat.zero_le _, Nat.zero_le _⟩ dX1_passOverTones_75 (fun r12 N13 H locs hp w => ?_)
            obtain ⟨z14, rfl, bz14, xz14, hMN13⟩ := hp
            rw [hMN13] at w
            refine z_if_eq (tgt := 315) hx hb (by omega) dX1_passOverTones_78 (by decide) (fun c15 => ?_) (fun c15 => ?_)
            · refine lv_iload hx hb dX1_passOverTones_315 (lv_at hl 1 rfl) ?_
              rw [hQ]
              exact e_i F w hr hlocks ⟨_, rfl, (by omega), hIL65, hFL65⟩ dX1_passOverTones_317
            · refine lv_iconst (v := zI 0) hx hb dX1_passOverTones_81 rfl ?_
              refine lv_istore (lv' := [(11, .int (zI 0)), (10, .int (zI v10_65)), (9, .int (zI v9_65)), (8, .int (zI v8_65)), (7, .int (zI z8)), (6, .int (zI z7)), (5, .int (zI o3)), (4, .int (zI z2)), (3, .int (zI z1)), (0, .ref (B + 23)), (1, .ref (B + u1)), (2, .ref (B + a))]) hx hb dX1_passOverTones_82 hl (by decide) rfl (fun ls hl => ?_)
              refine lv_aload_n hx hb dX1_passOverTones_84 rfl (lv_at hl 10 rfl) ?_
              refine lv_aload_n hx hb dX1_passOverTones_85 rfl (lv_at hl 11 rfl) ?_
              refine lv_iload hx hb dX1_passOverTones_86 (lv_at hl 3 rfl) ?_
              refine k_Vi F w (As := [.int (zI v8_65)]) (rest := [.ref (B + u1)]) (a := a) (kd_lt (a := a) hka (by decide)) (sh_9 hka _ _) rfl (q_X9_kindOf (a := a) hka (t := v8_65) (by omega)  hIL65) gv_X1_94 hv_X9_kindOf ⟨(Nat.le_of_ble_eq_true rfl), (Nat.le_of_ble_eq_true rfl)⟩ hl.1 rfl (Nat.le_of_ble_eq_true rfl) ⟨Nat.zero_le _, Nat.zero_le _⟩ dX1_passOverTones_88 (fun r16 N17 H locs hp w => ?_)
              obtain ⟨z18, rfl, bz18, hMN17⟩ := hp
              rw [hMN17] at w
              refine k_Vi F w (As := [.int (zI z18)]) (rest := []) (a := u1) (kd_lt (a := u1) hku1 (by decide)) (sh_4 hku1 _ _) rfl (q_X4_isOf (u1 := u1) hku1 (x := z18) (by omega)  hIL65) gv_X1_97 hv_X4_isOf ⟨(Nat.le_of_ble_eq_true rfl), (Nat.le_of_ble_eq_true rfl)⟩ hl.1 rfl (Nat.le_of_ble_eq_true rfl) ⟨Nat.zero_le _, Nat.zero_le _⟩ dX1_passOverTones_91 (fun r19 N20 H locs hp w => ?_)
              obtain ⟨z21, rfl, bz21, hMN20⟩ := hp
              rw [hMN20] at w
              refine z_if_eq (tgt := 249) hx hb (by omega) dX1_passOverTones_94 (by decide) (fun c22 => ?_) (fun c22 => ?_)
              · refine lv_iload_n hx hb dX1_passOverTones_249 rfl (lv_at hl 8 rfl) ?_
                refine lv_iconst (v := zI 2) hx hb dX1_passOverTones_250 rfl ?_
                refine z_icmp_ne (tgt := 273) hx hb (by omega) (by omega) dX1_passOverTones_251 (by decide) (fun c23 => ?_) (fun c23 => ?_)
                · refine lv_iload hx hb dX1_passOverTones_273 (lv_at hl 2 rfl) ?_
                  refine lv_iload hx hb dX1_passOverTones_275 (lv_at hl 0 rfl) ?_
                  refine z_iadd (z := v9_65) hx hb dX1_passOverTones_277 (by omega) ?_
                  refine lv_istore (lv' := [(9, .int (zI v9_65)), (11, .int (zI 0)), (10, .int (zI v10_65)), (8, .int (zI v8_65)), (7, .int (zI z8)), (6, .int (zI z7)), (5, .int (zI o3)), (4, .int (zI z2)), (3, .int (zI z1)), (0, .ref (B + 23)), (1, .ref (B + u1)), (2, .ref (B + a))]) hx hb dX1_passOverTones_278 hl (by decide) rfl (fun ls hl => ?_)
                  refine lv_iload hx hb dX1_passOverTones_280 (lv_at hl 3 rfl) ?_
                  refine lv_iload hx hb dX1_passOverTones_282 (lv_at hl 5 rfl) ?_
                  refine z_if_eq (tgt := 291) hx hb (by omega) dX1_passOverTones_284 (by decide) (fun c24 => ?_) (fun c24 => False.elim (by omega))
                  refine lv_iload_n hx hb dX1_passOverTones_291 rfl (lv_at hl 8 rfl) ?_
                  refine lv_iconst (v := zI 5) hx hb dX1_passOverTones_292 rfl ?_
                  refine z_icmp_ne (tgt := 305) hx hb (by omega) (by omega) dX1_passOverTones_293 (by decide) (fun c25 => ?_) (fun c25 => ?_)
                  · refine lv_iconst (v := zI 1) hx hb dX1_passOverTones_305 rfl ?_
                    refine z_iadd (z := (v8_65 + 1)) hx hb dX1_passOverTones_306 (by omega) ?_
                    refine lv_istore (lv' := [(8, .int (zI (v8_65 + 1))), (9, .int (zI v9_65)), (11, .int (zI 0)), (10, .int (zI v10_65)), (7, .int (zI z8)), (6, .int (zI z7)), (5, .int (zI o3)), (4, .int (zI z2)), (3, .int (zI z1)), (0, .ref (B + 23)), (1, .ref (B + u1)), (2, .ref (B + a))]) hx hb dX1_passOverTones_307 hl (by decide) rfl (fun ls hl => ?_)
                    refine z_iinc (v := (v10_65 + 1)) (lv' := [(10, .int (zI (v10_65 + 1))), (8, .int (zI (v8_65 + 1))), (9, .int (zI v9_65)), (11, .int (zI 0)), (7, .int (zI z8)), (6, .int (zI z7)), (5, .int (zI o3)), (4, .int (zI z2)), (3, .int (zI z1)), (0, .ref (B + 23)), (1, .ref (B + u1)), (2, .ref (B + a))]) hx hb dX1_passOverTones_309 hl (k := 3) rfl (by omega) (by decide) rfl (fun ls hl => ?_)
                    refine lv_goto (tgt := 65) hx hb dX1_passOverTones_312 (by decide) ?_
                    exact ih65 (v10_65 + 1) v9_65 (v8_65 + 1) NL65 (by omega) (by omega) (by omega)    hIL65 hFL65 (by omega) _ _ _ w (lv_sub hl [0, 2, 1, 4, 5, 6, 7, 8, 9, 10, 11] rfl)
                  · refine lv_iload hx hb dX1_passOverTones_296 (lv_at hl 1 rfl) ?_
                    refine z_if_le (tgt := 305) hx hb (by omega) dX1_passOverTones_298 (by decide) (fun c26 => ?_) (fun c26 => False.elim (by omega))
                    refine lv_iconst (v := zI 1) hx hb dX1_passOverTones_305 rfl ?_
                    refine z_iadd (z := (v8_65 + 1)) hx hb dX1_passOverTones_306 (by omega) ?_
                    refine lv_istore (lv' := [(8, .int (zI (v8_65 + 1))), (9, .int (zI v9_65)), (11, .int (zI 0)), (10, .int (zI v10_65)), (7, .int (zI z8)), (6, .int (zI z7)), (5, .int (zI o3)), (4, .int (zI z2)), (3, .int (zI z1)), (0, .ref (B + 23)), (1, .ref (B + u1)), (2, .ref (B + a))]) hx hb dX1_passOverTones_307 hl (by decide) rfl (fun ls hl => ?_)
                    refine z_iinc (v := (v10_65 + 1)) (lv' := [(10, .int (zI (v10_65 + 1))), (8, .int (zI (v8_65 + 1))), (9, .int (zI v9_65)), (11, .int (zI 0)), (7, .int (zI z8)), (6, .int (zI z7)), (5, .int (zI o3)), (4, .int (zI z2)), (3, .int (zI z1)), (0, .ref (B + 23)), (1, .ref (B + u1)), (2, .ref (B + a))]) hx hb dX1_passOverTones_309 hl (k := 3) rfl (by omega) (by decide) rfl (fun ls hl => ?_)
                    refine lv_goto (tgt := 65) hx hb dX1_passOverTones_312 (by decide) ?_
                    exact ih65 (v10_65 + 1) v9_65 (v8_65 + 1) NL65 (by omega) (by omega) (by omega)    hIL65 hFL65 (by omega) _ _ _ w (lv_sub hl [0, 2, 1, 4, 5, 6, 7, 8, 9, 10, 11] rfl)
                · refine lv_iload hx hb dX1_passOverTones_254 (lv_at hl 0 rfl) ?_
                  refine z_if_le (tgt := 273) hx hb (by omega) dX1_passOverTones_256 (by decide) (fun c27 => ?_) (fun c27 => False.elim (by omega))
                  refine lv_iload hx hb dX1_passOverTones_273 (lv_at hl 2 rfl) ?_
                  refine lv_iload hx hb dX1_passOverTones_275 (lv_at hl 0 rfl) ?_
                  refine z_iadd (z := v9_65) hx hb dX1_passOverTones_277 (by omega) ?_
                  refine lv_istore (lv' := [(9, .int (zI v9_65)), (11, .int (zI 0)), (10, .int (zI v10_65)), (8, .int (zI v8_65)), (7, .int (zI z8)), (6, .int (zI z7)), (5, .int (zI o3)), (4, .int (zI z2)), (3, .int (zI z1)), (0, .ref (B + 23)), (1, .ref (B + u1)), (2, .ref (B + a))]) hx hb dX1_passOverTones_278 hl (by decide) rfl (fun ls hl => ?_)
                  refine lv_iload hx hb dX1_passOverTones_280 (lv_at hl 3 rfl) ?_
                  refine lv_iload hx hb dX1_passOverTones_282 (lv_at hl 5 rfl) ?_
                  refine z_if_eq (tgt := 291) hx hb (by omega) dX1_passOverTones_284 (by decide) (fun c28 => ?_) (fun c28 => False.elim (by omega))
                  refine lv_iload_n hx hb dX1_passOverTones_291 rfl (lv_at hl 8 rfl) ?_
                  refine lv_iconst (v := zI 5) hx hb dX1_passOverTones_292 rfl ?_
                  refine z_icmp_ne (tgt := 305) hx hb (by omega) (by omega) dX1_passOverTones_293 (by decide) (fun c29 => ?_) (fun c29 => False.elim (by omega))
                  refine lv_iconst (v := zI 1) hx hb dX1_passOverTones_305 rfl ?_
                  refine z_iadd (z := (v8_65 + 1)) hx hb dX1_passOverTones_306 (by omega) ?_
                  refine lv_istore (lv' := [(8, .int (zI (v8_65 + 1))), (9, .int (zI v9_65)), (11, .int (zI 0)), (10, .int (zI v10_65)), (7, .int (zI z8)), (6, .int (zI z7)), (5, .int (zI o3)), (4, .int (zI z2)), (3, .int (zI z1)), (0, .ref (B + 23)), (1, .ref (B + u1)), (2, .ref (B + a))]) hx hb dX1_passOverTones_307 hl (by decide) rfl (fun ls hl => ?_)
                  refine z_iinc (v := (v10_65 + 1)) (lv' := [(10, .int (zI (v10_65 + 1))), (8, .int (zI (v8_65 + 1))), (9, .int (zI v9_65)), (11, .int (zI 0)), (7, .int (zI z8)), (6, .int (zI z7)), (5, .int (zI o3)), (4, .int (zI z2)), (3, .int (zI z1)), (0, .ref (B + 23)), (1, .ref (B + u1)), (2, .ref (B + a))]) hx hb dX1_passOverTones_309 hl (k := 3) rfl (by omega) (by decide) rfl (fun ls hl => ?_)
                  refine lv_goto (tgt := 65) hx hb dX1_passOverTones_312 (by decide) ?_
                  exact ih65 (v10_65 + 1) v9_65 (v8_65 + 1) NL65 (by omega) (by omega) (by omega)    hIL65 hFL65 (by omega) _ _ _ w (lv_sub hl [0, 2, 1, 4, 5, 6, 7, 8, 9, 10, 11] rfl)
              · refine lv_aload_n hx hb dX1_passOverTones_97 rfl (lv_at hl 10 rfl) ?_
                refine lv_aload_n hx hb dX1_passOverTones_98 rfl (lv_at hl 11 rfl) ?_
                refine lv_iload hx hb dX1_passOverTones_99 (lv_at hl 3 rfl) ?_
                refine k_Vi F w (As := [.ref (B + a), .int (zI v8_65)]) (rest := []) (a := u1) (kd_lt (a := u1) hku1 (by decide)) (sh_4 hku1 _ _) rfl (q_X4_admits (u1 := u1) hku1 (a := a) hka (t := v8_65) (by omega)  hIL65) gv_X1_100 hv_X4_admits ⟨(Nat.le_of_ble_eq_true rfl), (Nat.le_of_ble_eq_true rfl)⟩ hl.1 rfl (Nat.le_of_ble_eq_true rfl) ⟨Nat.zero_le _, Nat.zero_le _⟩ dX1_passOverTones_101 (fun r30 N31 H locs hp w => ?_)
                obtain ⟨z32, rfl, bz32, hMN31⟩ := hp
                rw [hMN31] at w
                refine z_if_eq (tgt := 249) hx hb (by omega) dX1_passOverTones_104 (by decide) (fun c33 => ?_) (fun c33 => ?_)
                · refine lv_iload_n hx hb dX1_passOverTones_249 rfl (lv_at hl 8 rfl) ?_
                  refine lv_iconst (v := zI 2) hx hb dX1_passOverTones_250 rfl ?_
                  refine z_icmp_ne (tgt := 273) hx hb (by omega) (by omega) dX1_passOverTones_251 (by decide) (fun c34 => ?_) (fun c34 => ?_)
                  · refine lv_iload hx hb dX1_passOverTones_273 (lv_at hl 2 rfl) ?_
                    refine lv_iload hx hb dX1_passOverTones_275 (lv_at hl 0 rfl) ?_
                    refine z_iadd (z := v9_65) hx hb dX1_passOverTones_277 (by omega) ?_
                    refine lv_istore (lv' := [(9, .int (zI v9_65)), (11, .int (zI 0)), (10, .int (zI v10_65)), (8, .int (zI v8_65)), (7, .int (zI z8)), (6, .int (zI z7)), (5, .int (zI o3)), (4, .int (zI z2)), (3, .int (zI z1)), (0, .ref (B + 23)), (1, .ref (B + u1)), (2, .ref (B + a))]) hx hb dX1_passOverTones_278 hl (by decide) rfl (fun ls hl => ?_)
                    refine lv_iload hx hb dX1_passOverTones_280 (lv_at hl 3 rfl) ?_
                    refine lv_iload hx hb dX1_passOverTones_282 (lv_at hl 5 rfl) ?_
                    refine z_if_eq (tgt := 291) hx hb (by omega) dX1_passOverTones_284 (by decide) (fun c35 => ?_) (fun c35 => False.elim (by omega))
                    refine lv_iload_n hx hb dX1_passOverTones_291 rfl (lv_at hl 8 rfl) ?_
                    refine lv_iconst (v := zI 5) hx hb dX1_passOverTones_292 rfl ?_
                    refine z_icmp_ne (tgt := 305) hx hb (by omega) (by omega) dX1_passOverTones_293 (by decide) (fun c36 => ?_) (fun c36 => ?_)
                    · refine lv_iconst (v := zI 1) hx hb dX1_passOverTones_305 rfl ?_
                      refine z_iadd (z := (v8_65 + 1)) hx hb dX1_passOverTones_306 (by omega) ?_
                      refine lv_istore (lv' := [(8, .int (zI (v8_65 + 1))), (9, .int (zI v9_65)), (11, .int (zI 0)), (10, .int (zI v10_65)), (7, .int (zI z8)), (6, .int (zI z7)), (5, .int (zI o3)), (4, .int (zI z2)), (3, .int (zI z1)), (0, .ref (B + 23)), (1, .ref (B + u1)), (2, .ref (B + a))]) hx hb dX1_passOverTones_307 hl (by decide) rfl (fun ls hl => ?_)
                      refine z_iinc (v := (v10_65 + 1)) (lv' := [(10, .int (zI (v10_65 + 1))), (8, .int (zI (v8_65 + 1))), (9, .int (zI v9_65)), (11, .int (zI 0)), (7, .int (zI z8)), (6, .int (zI z7)), (5, .int (zI o3)), (4, .int (zI z2)), (3, .int (zI z1)), (0, .ref (B + 23)), (1, .ref (B + u1)), (2, .ref (B + a))]) hx hb dX1_passOverTones_309 hl (k := 3) rfl (by omega) (by decide) rfl (fun ls hl => ?_)
                      refine lv_goto (tgt := 65) hx hb dX1_passOverTones_312 (by decide) ?_
                      exact ih65 (v10_65 + 1) v9_65 (v8_65 + 1) NL65 (by omega) (by omega) (by omega)    hIL65 hFL65 (by omega) _ _ _ w (lv_sub hl [0, 2, 1, 4, 5, 6, 7, 8, 9, 10, 11] rfl)
                    · refine lv_iload hx hb dX1_passOverTones_296 (lv_at hl 1 rfl) ?_
                      refine z_if_le (tgt := 305) hx hb (by omega) dX1_passOverTones_298 (by decide) (fun c37 => ?_) (fun c37 => False.elim (by omega))
                      refine lv_iconst (v := zI 1) hx hb dX1_passOverTones_305 rfl ?_
                      refine z_iadd (z := (v8_65 + 1)) hx hb dX1_passOverTones_306 (by omega) ?_
                      refine lv_istore (lv' := [(8, .int (zI (v8_65 + 1))), (9, .int (zI v9_65)), (11, .int (zI 0)), (10, .int (zI v10_65)), (7, .int (zI z8)), (6, .int (zI z7)), (5, .int (zI o3)), (4, .int (zI z2)), (3, .int (zI z1)), (0, .ref (B + 23)), (1, .ref (B + u1)), (2, .ref (B + a))]) hx hb dX1_passOverTones_307 hl (by decide) rfl (fun ls hl => ?_)
                      refine z_iinc (v := (v10_65 + 1)) (lv' := [(10, .int (zI (v10_65 + 1))), (8, .int (zI (v8_65 + 1))), (9, .int (zI v9_65)), (11, .int (zI 0)), (7, .int (zI z8)), (6, .int (zI z7)), (5, .int (zI o3)), (4, .int (zI z2)), (3, .int (zI z1)), (0, .ref (B + 23)), (1, .ref (B + u1)), (2, .ref (B + a))]) hx hb dX1_passOverTones_309 hl (k := 3) rfl (by omega) (by decide) rfl (fun ls hl => ?_)
                      refine lv_goto (tgt := 65) hx hb dX1_passOverTones_312 (by decide) ?_
                      exact ih65 (v10_65 + 1) v9_65 (v8_65 + 1) NL65 (by omega) (by omega) (by omega)    hIL65 hFL65 (by omega) _ _ _ w (lv_sub hl [0, 2, 1, 4, 5, 6, 7, 8, 9, 10, 11] rfl)
                  · refine lv_iload hx hb dX1_passOverTones_254 (lv_at hl 0 rfl) ?_
                    refine z_if_le (tgt := 273) hx hb (by omega) dX1_passOverTones_256 (by decide) (fun c38 => ?_) (fun c38 => False.elim (by omega))
                    refine lv_iload hx hb dX1_passOverTones_273 (lv_at hl 2 rfl) ?_
                    refine lv_iload hx hb dX1_passOverTones_275 (lv_at hl 0 rfl) ?_
                    refine z_iadd (z := v9_65) hx hb dX1_passOverTones_277 (by omega) ?_
                    refine lv_istore (lv' := [(9, .int (zI v9_65)), (11, .int (zI 0)), (10, .int (zI v10_65)), (8, .int (zI v8_65)), (7, .int (zI z8)), (6, .int (zI z7)), (5, .int (zI o3)), (4, .int (zI z2)), (3, .int (zI z1)), (0, .ref (B + 23)), (1, .ref (B + u1)), (2, .ref (B + a))]) hx hb dX1_passOverTones_278 hl (by decide) rfl (fun ls hl => ?_)
                    refine lv_iload hx hb dX1_passOverTones_280 (lv_at hl 3 rfl) ?_
                    refine lv_iload hx hb dX1_passOverTones_282 (lv_at hl 5 rfl) ?_
                    refine z_if_eq (tgt := 291) hx hb (by omega) dX1_passOverTones_284 (by decide) (fun c39 => ?_) (fun c39 => False.elim (by omega))
                    refine lv_iload_n hx hb dX1_passOverTones_291 rfl (lv_at hl 8 rfl) ?_
                    refine lv_iconst (v := zI 5) hx hb dX1_passOverTones_292 rfl ?_
                    refine z_icmp_ne (tgt := 305) hx hb (by omega) (by omega) dX1_passOverTones_293 (by decide) (fun c40 => ?_) (fun c40 => False.elim (by omega))
                    refine lv_iconst (v := zI 1) hx hb dX1_passOverTones_305 rfl ?_
                    refine z_iadd (z := (v8_65 + 1)) hx hb dX1_passOverTones_306 (by omega) ?_
                    refine lv_istore (lv' := [(8, .int (zI (v8_65 + 1))), (9, .int (zI v9_65)), (11, .int (zI 0)), (10, .int (zI v10_65)), (7, .int (zI z8)), (6, .int (zI z7)), (5, .int (zI o3)), (4, .int (zI z2)), (3, .int (zI z1)), (0, .ref (B + 23)), (1, .ref (B + u1)), (2, .ref (B + a))]) hx hb dX1_passOverTones_307 hl (by decide) rfl (fun ls hl => ?_)
                    refine z_iinc (v := (v10_65 + 1)) (lv' := [(10, .int (zI (v10_65 + 1))), (8, .int (zI (v8_65 + 1))), (9, .int (zI v9_65)), (11, .int (zI 0)), (7, .int (zI z8)), (6, .int (zI z7)), (5, .int (zI o3)), (4, .int (zI z2)), (3, .int (zI z1)), (0, .ref (B + 23)), (1, .ref (B + u1)), (2, .ref (B + a))]) hx hb dX1_passOverTones_309 hl (k := 3) rfl (by omega) (by decide) rfl (fun ls hl => ?_)
                    refine lv_goto (tgt := 65) hx hb dX1_passOverTones_312 (by decide) ?_
                    exact ih65 (v10_65 + 1) v9_65 (v8_65 + 1) NL65 (by omega) (by omega) (by omega)    hIL65 hFL65 (by omega) _ _ _ w (lv_sub hl [0, 2, 1, 4, 5, 6, 7, 8, 9, 10, 11] rfl)
                · refine lv_iload_n hx hb dX1_passOverTones_107 rfl (lv_at hl 8 rfl) ?_
                  rcases (show z1 = 1 ∨ z1 = 2 ∨ z1 = 3 ∨ z1 = 4 ∨ z1 = 5 ∨ z1 = 6 ∨ z1 = 7 ∨ (z1 ≠ 1 ∧ z1 ≠ 2 ∧ z1 ≠ 3 ∧ z1 ≠ 4 ∧ z1 ≠ 5 ∧ z1 ≠ 6 ∧ z1 ≠ 7) by omega) with c41 | c41 | c41 | c41 | c41 | c41 | c41 | c41
                  · refine r_val (v := zI 1) (congrArg zI c41) ?_
                    refine lv_tableIn (tgt := 152) hx hb dX1_passOverTones_108 (by decide) (by decide) (off := 44) rfl (by decide) ?_
                    refine lv_aload_n hx hb dX1_passOverTones_152 rfl (lv_at hl 9 rfl) ?_
                    refine lv_aload_n hx hb dX1_passOverTones_153 rfl (lv_at hl 11 rfl) ?_
                    refine lv_iload hx hb dX1_passOverTones_154 (lv_at hl 3 rfl) ?_
                    refine lv_iload hx hb dX1_passOverTones_156 (lv_at hl 5 rfl) ?_
                    refine lv_iload hx hb dX1_passOverTones_158 (lv_at hl 7 rfl) ?_
                    refine k_Vi F w (As := [.ref (B + a), .int (zI v8_65), .int (zI z7), .int (zI z2)]) (rest := []) (a := 23) (kd_lt (a := 23) (show kd 23 = (1, 0, 0) from rfl) (by decide)) (sh_1 rfl _ _) rfl (q_X1_spread (a := a) hka (t := v8_65) (by omega) (x := z7) (by omega) (x1 := z2) (by omega)  hIL65) gv_X1_104 hv_X1_spread ⟨(Nat.le_of_ble_eq_true rfl), (Nat.le_of_ble_eq_true rfl)⟩ hl.1 rfl (Nat.le_of_ble_eq_true rfl) ⟨Nat.zero_le _, Nat.zero_le _⟩ dX1_passOverTones_160 (fun r42 N43 H locs hp w => ?_)
                    obtain ⟨z44, rfl, bz44, hIN43, hFN43⟩ := hp
                    have hGN43 := Fr.tr hFL65 hFN43 (S := (fun b9 k9 => b9 = (a + 1) ∨ b9 = (a + 2) ∨ b9 = a)) (fun b k h => by first | omega | (dsimp only at h ⊢; omega))
                    have kn45 : N43.1 a 0 = zI z11 := (hFN43 a 0 (by first | omega | (dsimp only; omega))).trans (ez11)
                    refine lv_istore (lv' := [(11, .int (zI z44)), (10, .int (zI v10_65)), (9, .int (zI v9_65)), (8, .int (zI v8_65)), (7, .int (zI z8)), (6, .int (zI z7)), (5, .int (zI o3)), (4, .int (zI z2)), (3, .int (zI z1)), (0, .ref (B + 23)), (1, .ref (B + u1)), (2, .ref (B + a))]) hx hb dX1_passOverTones_163 hl (by decide) rfl (fun ls hl => ?_)
                    refine lv_goto (tgt := 249) hx hb dX1_passOverTones_165 (by decide) ?_
                    refine lv_iload_n hx hb dX1_passOverTones_249 rfl (lv_at hl 8 rfl) ?_
                    refine lv_iconst (v := zI 2) hx hb dX1_passOverTones_250 rfl ?_
                    refine z_icmp_ne (tgt := 273) hx hb (by omega) (by omega) dX1_passOverTones_251 (by decide) (fun c46 => ?_) (fun c46 => False.elim (by omega))
                    refine lv_iload hx hb dX1_passOverTones_273 (lv_at hl 2 rfl) ?_
                    refine lv_iload hx hb dX1_passOverTones_275 (lv_at hl 0 rfl) ?_
                    obtain ⟨z47, bz47, x0z47, ez47⟩ := add_ex v9_65 z44
                    refine lv_iadd hx hb dX1_passOverTones_277 ?_
                    refine r_val ez47 ?_
                    refine lv_istore (lv' := [(9, .int (zI z47)), (11, .int (zI z44)), (10, .int (zI v10_65)), (8, .int (zI v8_65)), (7, .int (zI z8)), (6, .int (zI z7)), (5, .int (zI o3)), (4, .int (zI z2)), (3, .int (zI z1)), (0, .ref (B + 23)), (1, .ref (B + u1)), (2, .ref (B + a))]) hx hb dX1_passOverTones_278 hl (by decide) rfl (fun ls hl => ?_)
                    refine lv_iload hx hb dX1_passOverTones_280 (lv_at hl 3 rfl) ?_
                    refine lv_iload hx hb dX1_passOverTones_282 (lv_at hl 5 rfl) ?_
                    refine z_if_eq (tgt := 291) hx hb (by omega) dX1_passOverTones_284 (by decide) (fun c48 => ?_) (fun c48 => False.elim (by omega))
                    refine lv_iload_n hx hb dX1_passOverTones_291 rfl (lv_at hl 8 rfl) ?_
                    refine lv_iconst (v := zI 5) hx hb dX1_passOverTones_292 rfl ?_
                    refine z_icmp_ne (tgt := 305) hx hb (by omega) (by omega) dX1_passOverTones_293 (by decide) (fun c49 => ?_) (fun c49 => False.elim (by omega))
                    refine lv_iconst (v := zI 1) hx hb dX1_passOverTones_305 rfl ?_
                    refine z_iadd (z := (v8_65 + 1)) hx hb dX1_passOverTones_306 (by omega) ?_
                    refine lv_istore (lv' := [(8, .int (zI (v8_65 + 1))), (9, .int (zI z47)), (11, .int (zI z44)), (10, .int (zI v10_65)), (7, .int (zI z8)), (6, .int (zI z7)), (5, .int (zI o3)), (4, .int (zI z2)), (3, .int (zI z1)), (0, .ref (B + 23)), (1, .ref (B + u1)), (2, .ref (B + a))]) hx hb dX1_passOverTones_307 hl (by decide) rfl (fun ls hl => ?_)
                    refine z_iinc (v := (v10_65 + 1)) (lv' := [(10, .int (zI (v10_65 + 1))), (8, .int (zI (v8_65 + 1))), (9, .int (zI z47)), (11, .int (zI z44)), (7, .int (zI z8)), (6, .int (zI z7)), (5, .int (zI o3)), (4, .int (zI z2)), (3, .int (zI z1)), (0, .ref (B + 23)), (1, .ref (B + u1)), (2, .ref (B + a))]) hx hb dX1_passOverTones_309 hl (k := 3) rfl (by omega) (by decide) rfl (fun ls hl => ?_)
                    refine lv_goto (tgt := 65) hx hb dX1_passOverTones_312 (by decide) ?_
                    exact ih65 (v10_65 + 1) z47 (v8_65 + 1) N43 (by omega) (by omega) (by omega)    hIN43 hGN43 (by omega) _ _ _ w (lv_sub hl [0, 2, 1, 4, 5, 6, 7, 8, 9, 10, 11] rfl)
                  · refine r_val (v := zI 2) (congrArg zI c41) ?_
                    refine lv_tableIn (tgt := 168) hx hb dX1_passOverTones_108 (by decide) (by decide) (off := 60) rfl (by decide) ?_
                    refine lv_aload_n hx hb dX1_passOverTones_168 rfl (lv_at hl 9 rfl) ?_
                    refine lv_aload_n hx hb dX1_passOverTones_169 rfl (lv_at hl 11 rfl) ?_
                    refine lv_iload hx hb dX1_passOverTones_170 (lv_at hl 3 rfl) ?_
                    refine lv_iload hx hb dX1_passOverTones_172 (lv_at hl 5 rfl) ?_
                    refine lv_iconst (v := zI 1) hx hb dX1_passOverTones_174 rfl ?_
                    refine k_Vi F w (As := [.ref (B + a), .int (zI v8_65), .int (zI z7), .int (zI 1)]) (rest := []) (a := 23) (kd_lt (a := 23) (show kd 23 = (1, 0, 0) from rfl) (by decide)) (sh_1 rfl _ _) rfl (q_X1_spread (a := a) hka (t := v8_65) (by omega) (x := z7) (by omega) (x1 := 1) (by omega)  hIL65) gv_X1_104 hv_X1_spread ⟨(Nat.le_of_ble_eq_true rfl), (Nat.le_of_ble_eq_true rfl)⟩ hl.1 rfl (Nat.le_of_ble_eq_true rfl) ⟨Nat.zero_le _, Nat.zero_le _⟩ dX1_passOverTones_175 (fun r50 N51 H locs hp w => ?_)
                    obtain ⟨z52, rfl, bz52, hIN51, hFN51⟩ := hp
                    have hGN51 := Fr.tr hFL65 hFN51 (S := (fun b9 k9 => b9 = (a + 1) ∨ b9 = (a + 2) ∨ b9 = a)) (fun b k h => by first | omega | (dsimp only at h ⊢; omega))
                    have kn53 : N51.1 a 0 = zI z11 := (hFN51 a 0 (by first | omega | (dsimp only; omega))).trans (ez11)
                    refine lv_istore (lv' := [(11, .int (zI z52)), (10, .int (zI v10_65)), (9, .int (zI v9_65)), (8, .int (zI v8_65)), (7, .int (zI z8)), (6, .int (zI z7)), (5, .int (zI o3)), (4, .int (zI z2)), (3, .int (zI z1)), (0, .ref (B + 23)), (1, .ref (B + u1)), (2, .ref (B + a))]) hx hb dX1_passOverTones_178 hl (by decide) rfl (fun ls hl => ?_)
                    refine lv_goto (tgt := 249) hx hb dX1_passOverTones_180 (by decide) ?_
                    refine lv_iload_n hx hb dX1_passOverTones_249 rfl (lv_at hl 8 rfl) ?_
                    refine lv_iconst (v := zI 2) hx hb dX1_passOverTones_250 rfl ?_
                    refine z_icmp_ne (tgt := 273) hx hb (by omega) (by omega) dX1_passOverTones_251 (by decide) (fun c54 => False.elim (by omega)) (fun c54 => ?_)
                    refine lv_iload hx hb dX1_passOverTones_254 (lv_at hl 0 rfl) ?_
                    refine z_if_le (tgt := 273) hx hb (by omega) dX1_passOverTones_256 (by decide) (fun c55 => ?_) (fun c55 => ?_)
                    · refine lv_iload hx hb dX1_passOverTones_273 (lv_at hl 2 rfl) ?_
                      refine lv_iload hx hb dX1_passOverTones_275 (lv_at hl 0 rfl) ?_
                      obtain ⟨z56, bz56, x0z56, ez56⟩ := add_ex v9_65 z52
                      refine lv_iadd hx hb dX1_passOverTones_277 ?_
                      refine r_val ez56 ?_
                      refine lv_istore (lv' := [(9, .int (zI z56)), (11, .int (zI z52)), (10, .int (zI v10_65)), (8, .int (zI v8_65)), (7, .int (zI z8)), (6, .int (zI z7)), (5, .int (zI o3)), (4, .int (zI z2)), (3, .int (zI z1)), (0, .ref (B + 23)), (1, .ref (B + u1)), (2, .ref (B + a))]) hx hb dX1_passOverTones_278 hl (by decide) rfl (fun ls hl => ?_)
                      refine lv_iload hx hb dX1_passOverTones_280 (lv_at hl 3 rfl) ?_
                      refine lv_iload hx hb dX1_passOverTones_282 (lv_at hl 5 rfl) ?_
                      refine z_if_eq (tgt := 291) hx hb (by omega) dX1_passOverTones_284 (by decide) (fun c57 => ?_) (fun c57 => False.elim (by omega))
                      refine lv_iload_n hx hb dX1_passOverTones_291 rfl (lv_at hl 8 rfl) ?_
                      refine lv_iconst (v := zI 5) hx hb dX1_passOverTones_292 rfl ?_
                      refine z_icmp_ne (tgt := 305) hx hb (by omega) (by omega) dX1_passOverTones_293 (by decide) (fun c58 => ?_) (fun c58 => False.elim (by omega))
                      refine lv_iconst (v := zI 1) hx hb dX1_passOverTones_305 rfl ?_
                      refine z_iadd (z := (v8_65 + 1)) hx hb dX1_passOverTones_306 (by omega) ?_
                      refine lv_istore (lv' := [(8, .int (zI (v8_65 + 1))), (9, .int (zI z56)), (11, .int (zI z52)), (10, .int (zI v10_65)), (7, .int (zI z8)), (6, .int (zI z7)), (5, .int (zI o3)), (4, .int (zI z2)), (3, .int (zI z1)), (0, .ref (B + 23)), (1, .ref (B + u1)), (2, .ref (B + a))]) hx hb dX1_passOverTones_307 hl (by decide) rfl (fun ls hl => ?_)
                      refine z_iinc (v := (v10_65 + 1)) (lv' := [(10, .int (zI (v10_65 + 1))), (8, .int (zI (v8_65 + 1))), (9, .int (zI z56)), (11, .int (zI z52)), (7, .int (zI z8)), (6, .int (zI z7)), (5, .int (zI o3)), (4, .int (zI z2)), (3, .int (zI z1)), (0, .ref (B + 23)), (1, .ref (B + u1)), (2, .ref (B + a))]) hx hb dX1_passOverTones_309 hl (k := 3) rfl (by omega) (by decide) rfl (fun ls hl => ?_)
                      refine lv_goto (tgt := 65) hx hb dX1_passOverTones_312 (by decide) ?_
                      exact ih65 (v10_65 + 1) z56 (v8_65 + 1) N51 (by omega) (by omega) (by omega)    hIN51 hGN51 (by omega) _ _ _ w (lv_sub hl [0, 2, 1, 4, 5, 6, 7, 8, 9, 10, 11] rfl)
                    · refine lv_iload hx hb dX1_passOverTones_259 (lv_at hl 0 rfl) ?_
                      refine lv_aload_n hx hb dX1_passOverTones_261 rfl (lv_at hl 9 rfl) ?_
                      refine lv_aload_n hx hb dX1_passOverTones_262 rfl (lv_at hl 11 rfl) ?_
                      refine lv_iload hx hb dX1_passOverTones_263 (lv_at hl 3 rfl) ?_
                      refine lv_iload hx hb dX1_passOverTones_265 (lv_at hl 5 rfl) ?_
                      refine k_Vi F w (As := [.ref (B + a), .int (zI v8_65), .int (zI z7)]) (rest := [.int (zI z52)]) (a := 23) (kd_lt (a := 23) (show kd 23 = (1, 0, 0) from rfl) (by decide)) (sh_1 rfl _ _) rfl (q_X1_leave (a := a) hka (t := v8_65) (by omega) (x := z7) (by omega)  hIN51) gv_X1_124 hv_X1_leave ⟨(Nat.le_of_ble_eq_true rfl), (Nat.le_of_ble_eq_true rfl)⟩ hl.1 rfl (Nat.le_of_ble_eq_true rfl) ⟨Nat.zero_le _, Nat.zero_le _⟩ dX1_passOverTones_267 (fun r59 N60 H locs hp w => ?_)
                      obtain ⟨z61, rfl, bz61, hIN60, hFN60⟩ := hp
                      have hGN60 := Fr.tr hGN51 hFN60 (S := (fun b9 k9 => b9 = (a + 1) ∨ b9 = (a + 2) ∨ b9 = a)) (fun b k h => by first | omega | (dsimp only at h ⊢; omega))
                      have kn62 : N60.1 a 0 = zI z11 := (hFN60 a 0 (by first | omega | (dsimp only; omega))).trans (kn53)
                      obtain ⟨z63, bz63, x0z63, ez63⟩ := add_ex z52 z61
                      refine lv_iadd hx hb dX1_passOverTones_270 ?_
                      refine r_val ez63 ?_
                      refine lv_istore (lv' := [(11, .int (zI z63)), (10, .int (zI v10_65)), (9, .int (zI v9_65)), (8, .int (zI v8_65)), (7, .int (zI z8)), (6, .int (zI z7)), (5, .int (zI o3)), (4, .int (zI z2)), (3, .int (zI z1)), (0, .ref (B + 23)), (1, .ref (B + u1)), (2, .ref (B + a))]) hx hb dX1_passOverTones_271 hl (by decide) rfl (fun ls hl => ?_)
                      refine lv_iload hx hb dX1_passOverTones_273 (lv_at hl 2 rfl) ?_
                      refine lv_iload hx hb dX1_passOverTones_275 (lv_at hl 0 rfl) ?_
                      obtain ⟨z64, bz64, x0z64, ez64⟩ := add_ex v9_65 z63
                      refine lv_iadd hx hb dX1_passOverTones_277 ?_
                      refine r_val ez64 ?_
                      refine lv_istore (lv' := [(9, .int (zI z64)), (11, .int (zI z63)), (10, .int (zI v10_65)), (8, .int (zI v8_65)), (7, .int (zI z8)), (6, .int (zI z7)), (5, .int (zI o3)), (4, .int (zI z2)), (3, .int (zI z1)), (0, .ref (B + 23)), (1, .ref (B + u1)), (2, .ref (B + a))]) hx hb dX1_passOverTones_278 hl (by decide) rfl (fun ls hl => ?_)
                      refine lv_iload hx hb dX1_passOverTones_280 (lv_at hl 3 rfl) ?_
                      refine lv_iload hx hb dX1_passOverTones_282 (lv_at hl 5 rfl) ?_
                      refine z_if_eq (tgt := 291) hx hb (by omega) dX1_passOverTones_284 (by decide) (fun c65 => ?_) (fun c65 => False.elim (by omega))
                      refine lv_iload_n hx hb dX1_passOverTones_291 rfl (lv_at hl 8 rfl) ?_
                      refine lv_iconst (v := zI 5) hx hb dX1_passOverTones_292 rfl ?_
                      refine z_icmp_ne (tgt := 305) hx hb (by omega) (by omega) dX1_passOverTones_293 (by decide) (fun c66 => ?_) (fun c66 => False.elim (by omega))
                      refine lv_iconst (v := zI 1) hx hb dX1_passOverTones_305 rfl ?_
                      refine z_iadd (z := (v8_65 + 1)) hx hb dX1_passOverTones_306 (by omega) ?_
                      refine lv_istore (lv' := [(8, .int (zI (v8_65 + 1))), (9, .int (zI z64)), (11, .int (zI z63)), (10, .int (zI v10_65)), (7, .int (zI z8)), (6, .int (zI z7)), (5, .int (zI o3)), (4, .int (zI z2)), (3, .int (zI z1)), (0, .ref (B + 23)), (1, .ref (B + u1)), (2, .ref (B + a))]) hx hb dX1_passOverTones_307 hl (by decide) rfl (fun ls hl => ?_)
                      refine z_iinc (v := (v10_65 + 1)) (lv' := [(10, .int (zI (v10_65 + 1))), (8, .int (zI (v8_65 + 1))), (9, .int (zI z64)), (11, .int (zI z63)), (7, .int (zI z8)), (6, .int (zI z7)), (5, .int (zI o3)), (4, .int (zI z2)), (3, .int (zI z1)), (0, .ref (B + 23)), (1, .ref (B + u1)), (2, .ref (B + a))]) hx hb dX1_passOverTones_309 hl (k := 3) rfl (by omega) (by decide) rfl (fun ls hl => ?_)
                      refine lv_goto (tgt := 65) hx hb dX1_passOverTones_312 (by decide) ?_
                      exact ih65 (v10_65 + 1) z64 (v8_65 + 1) N60 (by omega) (by omega) (by omega)    hIN60 hGN60 (by omega) _ _ _ w (lv_sub hl [0, 2, 1, 4, 5, 6, 7, 8, 9, 10, 11] rfl)
                  · refine r_val (v := zI 3) (congrArg zI c41) ?_
                    refine lv_tableIn (tgt := 183) hx hb dX1_passOverTones_108 (by decide) (by decide) (off := 75) rfl (by decide) ?_
                    refine lv_aload_n hx hb dX1_passOverTones_183 rfl (lv_at hl 9 rfl) ?_
                    refine lv_aload_n hx hb dX1_passOverTones_184 rfl (lv_at hl 11 rfl) ?_
                    refine lv_iload hx hb dX1_passOverTones_185 (lv_at hl 3 rfl) ?_
                    refine lv_iload hx hb dX1_passOverTones_187 (lv_at hl 6 rfl) ?_
                    refine k_Vi F w (As := [.ref (B + a), .int (zI v8_65), .int (zI o3)]) (rest := []) (a := 23) (kd_lt (a := 23) (show kd 23 = (1, 0, 0) from rfl) (by decide)) (sh_1 rfl _ _) rfl (q_X1_cutOff (a := a) hka (t := v8_65) (by omega) (x := o3) (by omega)  hIL65) gv_X1_108 hv_X1_cutOff ⟨(Nat.le_of_ble_eq_true rfl), (Nat.le_of_ble_eq_true rfl)⟩ hl.1 rfl (Nat.le_of_ble_eq_true rfl) ⟨Nat.zero_le _, Nat.zero_le _⟩ dX1_passOverTones_189 (fun r67 N68 H locs hp w => ?_)
                    obtain ⟨z69, rfl, bz69, hIN68, hFN68⟩ := hp
                    have hGN68 := Fr.tr hFL65 hFN68 (S := (fun b9 k9 => b9 = (a + 1) ∨ b9 = (a + 2) ∨ b9 = a)) (fun b k h => by first | omega | (dsimp only at h ⊢; omega))
                    have kn70 : N68.1 a 0 = zI z11 := (hFN68 a 0 (by first | omega | (dsimp only; omega))).trans (ez11)
                    refine lv_istore (lv' := [(11, .int (zI z69)), (10, .int (zI v10_65)), (9, .int (zI v9_65)), (8, .int (zI v8_65)), (7, .int (zI z8)), (6, .int (zI z7)), (5, .int (zI o3)), (4, .int (zI z2)), (3, .int (zI z1)), (0, .ref (B + 23)), (1, .ref (B + u1)), (2, .ref (B + a))]) hx hb dX1_passOverTones_192 hl (by decide) rfl (fun ls hl => ?_)
                    refine lv_goto (tgt := 249) hx hb dX1_passOverTones_194 (by decide) ?_
                    refine lv_iload_n hx hb dX1_passOverTones_249 rfl (lv_at hl 8 rfl) ?_
                    refine lv_iconst (v := zI 2) hx hb dX1_passOverTones_250 rfl ?_
                    refine z_icmp_ne (tgt := 273) hx hb (by omega) (by omega) dX1_passOverTones_251 (by decide) (fun c71 => ?_) (fun c71 => False.elim (by omega))
                    refine lv_iload hx hb dX1_passOverTones_273 (lv_at hl 2 rfl) ?_
                    refine lv_iload hx hb dX1_passOverTones_275 (lv_at hl 0 rfl) ?_
                    obtain ⟨z72, bz72, x0z72, ez72⟩ := add_ex v9_65 z69
                    refine lv_iadd hx hb dX1_passOverTones_277 ?_
                    refine r_val ez72 ?_
                    refine lv_istore (lv' := [(9, .int (zI z72)), (11, .int (zI z69)), (10, .int (zI v10_65)), (8, .int (zI v8_65)), (7, .int (zI z8)), (6, .int (zI z7)), (5, .int (zI o3)), (4, .int (zI z2)), (3, .int (zI z1)), (0, .ref (B + 23)), (1, .ref (B + u1)), (2, .ref (B + a))]) hx hb dX1_passOverTones_278 hl (by decide) rfl (fun ls hl => ?_)
                    refine lv_iload hx hb dX1_passOverTones_280 (lv_at hl 3 rfl) ?_
                    refine lv_iload hx hb dX1_passOverTones_282 (lv_at hl 5 rfl) ?_
                    refine z_if_eq (tgt := 291) hx hb (by omega) dX1_passOverTones_284 (by decide) (fun c73 => ?_) (fun c73 => False.elim (by omega))
                    refine lv_iload_n hx hb dX1_passOverTones_291 rfl (lv_at hl 8 rfl) ?_
                    refine lv_iconst (v := zI 5) hx hb dX1_passOverTones_292 rfl ?_
                    refine z_icmp_ne (tgt := 305) hx hb (by omega) (by omega) dX1_passOverTones_293 (by decide) (fun c74 => ?_) (fun c74 => False.elim (by omega))
                    refine lv_iconst (v := zI 1) hx hb dX1_passOverTones_305 rfl ?_
                    refine z_iadd (z := (v8_65 + 1)) hx hb dX1_passOverTones_306 (by omega) ?_
                    refine lv_istore (lv' := [(8, .int (zI (v8_65 + 1))), (9, .int (zI z72)), (11, .int (zI z69)), (10, .int (zI v10_65)), (7, .int (zI z8)), (6, .int (zI z7)), (5, .int (zI o3)), (4, .int (zI z2)), (3, .int (zI z1)), (0, .ref (B + 23)), (1, .ref (B + u1)), (2, .ref (B + a))]) hx hb dX1_passOverTones_307 hl (by decide) rfl (fun ls hl => ?_)
                    refine z_iinc (v := (v10_65 + 1)) (lv' := [(10, .int (zI (v10_65 + 1))), (8, .int (zI (v8_65 + 1))), (9, .int (zI z72)), (11, .int (zI z69)), (7, .int (zI z8)), (6, .int (zI z7)), (5, .int (zI o3)), (4, .int (zI z2)), (3, .int (zI z1)), (0, .ref (B + 23)), (1, .ref (B + u1)), (2, .ref (B + a))]) hx hb dX1_passOverTones_309 hl (k := 3) rfl (by omega) (by decide) rfl (fun ls hl => ?_)
                    refine lv_goto (tgt := 65) hx hb dX1_passOverTones_312 (by decide) ?_
                    exact ih65 (v10_65 + 1) z72 (v8_65 + 1) N68 (by omega) (by omega) (by omega)    hIN68 hGN68 (by omega) _ _ _ w (lv_sub hl [0, 2, 1, 4, 5, 6, 7, 8, 9, 10, 11] rfl)
                  · refine r_val (v := zI 4) (congrArg zI c41) ?_
                    refine lv_tableIn (tgt := 197) hx hb dX1_passOverTones_108 (by decide) (by decide) (off := 89) rfl (by decide) ?_
                    refine lv_aload_n hx hb dX1_passOverTones_197 rfl (lv_at hl 9 rfl) ?_
                    refine lv_aload_n hx hb dX1_passOverTones_198 rfl (lv_at hl 11 rfl) ?_
                    refine lv_iload hx hb dX1_passOverTones_199 (lv_at hl 3 rfl) ?_
                    refine lv_iload hx hb dX1_passOverTones_201 (lv_at hl 5 rfl) ?_
                    refine k_Vi F w (As := [.ref (B + a), .int (zI v8_65), .int (zI z7)]) (rest := []) (a := 23) (kd_lt (a := 23) (show kd 23 = (1, 0, 0) from rfl) (by decide)) (sh_1 rfl _ _) rfl (q_X1_dock (a := a) hka (t := v8_65) (by omega) (x := z7) (by omega)  hIL65) gv_X1_111 hv_X1_dock ⟨(Nat.le_of_ble_eq_true rfl), (Nat.le_of_ble_eq_true rfl)⟩ hl.1 rfl (Nat.le_of_ble_eq_true rfl) ⟨Nat.zero_le _, Nat.zero_le _⟩ dX1_passOverTones_203 (fun r75 N76 H locs hp w => ?_)
                    obtain ⟨z77, rfl, bz77, hIN76, hFN76⟩ := hp
                    have hGN76 := Fr.tr hFL65 hFN76 (S := (fun b9 k9 => b9 = (a + 1) ∨ b9 = (a + 2) ∨ b9 = a)) (fun b k h => by first | omega | (dsimp only at h ⊢; omega))
                    have kn78 : N76.1 a 0 = zI z11 := (hFN76 a 0 (by first | omega | (dsimp only; omega))).trans (ez11)
                    refine lv_istore (lv' := [(11, .int (zI z77)), (10, .int (zI v10_65)), (9, .int (zI v9_65)), (8, .int (zI v8_65)), (7, .int (zI z8)), (6, .int (zI z7)), (5, .int (zI o3)), (4, .int (zI z2)), (3, .int (zI z1)), (0, .ref (B + 23)), (1, .ref (B + u1)), (2, .ref (B + a))]) hx hb dX1_passOverTones_206 hl (by decide) rfl (fun ls hl => ?_)
                    refine lv_goto (tgt := 249) hx hb dX1_passOverTones_208 (by decide) ?_
                    refine lv_iload_n hx hb dX1_passOverTones_249 rfl (lv_at hl 8 rfl) ?_
                    refine lv_iconst (v := zI 2) hx hb dX1_passOverTones_250 rfl ?_
                    refine z_icmp_ne (tgt := 273) hx hb (by omega) (by omega) dX1_passOverTones_251 (by decide) (fun c79 => ?_) (fun c79 => False.elim (by omega))
                    refine lv_iload hx hb dX1_passOverTones_273 (lv_at hl 2 rfl) ?_
                    refine lv_iload hx hb dX1_passOverTones_275 (lv_at hl 0 rfl) ?_
                    obtain ⟨z80, bz80, x0z80, ez80⟩ := add_ex v9_65 z77
                    refine lv_iadd hx hb dX1_passOverTones_277 ?_
                    refine r_val ez80 ?_
                    refine lv_istore (lv' := [(9, .int (zI z80)), (11, .int (zI z77)), (10, .int (zI v10_65)), (8, .int (zI v8_65)), (7, .int (zI z8)), (6, .int (zI z7)), (5, .int (zI o3)), (4, .int (zI z2)), (3, .int (zI z1)), (0, .ref (B + 23)), (1, .ref (B + u1)), (2, .ref (B + a))]) hx hb dX1_passOverTones_278 hl (by decide) rfl (fun ls hl => ?_)
                    refine lv_iload hx hb dX1_passOverTones_280 (lv_at hl 3 rfl) ?_
                    refine lv_iload hx hb dX1_passOverTones_282 (lv_at hl 5 rfl) ?_
                    refine z_if_eq (tgt := 291) hx hb (by omega) dX1_passOverTones_284 (by decide) (fun c81 => ?_) (fun c81 => False.elim (by omega))
                    refine lv_iload_n hx hb dX1_passOverTones_291 rfl (lv_at hl 8 rfl) ?_
                    refine lv_iconst (v := zI 5) hx hb dX1_passOverTones_292 rfl ?_
                    refine z_icmp_ne (tgt := 305) hx hb (by omega) (by omega) dX1_passOverTones_293 (by decide) (fun c82 => ?_) (fun c82 => False.elim (by omega))
                    refine lv_iconst (v := zI 1) hx hb dX1_passOverTones_305 rfl ?_
                    refine z_iadd (z := (v8_65 + 1)) hx hb dX1_passOverTones_306 (by omega) ?_
                    refine lv_istore (lv' := [(8, .int (zI (v8_65 + 1))), (9, .int (zI z80)), (11, .int (zI z77)), (10, .int (zI v10_65)), (7, .int (zI z8)), (6, .int (zI z7)), (5, .int (zI o3)), (4, .int (zI z2)), (3, .int (zI z1)), (0, .ref (B + 23)), (1, .ref (B + u1)), (2, .ref (B + a))]) hx hb dX1_passOverTones_307 hl (by decide) rfl (fun ls hl => ?_)
                    refine z_iinc (v := (v10_65 + 1)) (lv' := [(10, .int (zI (v10_65 + 1))), (8, .int (zI (v8_65 + 1))), (9, .int (zI z80)), (11, .int (zI z77)), (7, .int (zI z8)), (6, .int (zI z7)), (5, .int (zI o3)), (4, .int (zI z2)), (3, .int (zI z1)), (0, .ref (B + 23)), (1, .ref (B + u1)), (2, .ref (B + a))]) hx hb dX1_passOverTones_309 hl (k := 3) rfl (by omega) (by decide) rfl (fun ls hl => ?_)
                    refine lv_goto (tgt := 65) hx hb dX1_passOverTones_312 (by decide) ?_
                    exact ih65 (v10_65 + 1) z80 (v8_65 + 1) N76 (by omega) (by omega) (by omega)    hIN76 hGN76 (by omega) _ _ _ w (lv_sub hl [0, 2, 1, 4, 5, 6, 7, 8, 9, 10, 11] rfl)
                  · refine r_val (v := zI 5) (congrArg zI c41) ?_
                    refine lv_tableIn (tgt := 211) hx hb dX1_passOverTones_108 (by decide) (by decide) (off := 103) rfl (by decide) ?_
                    refine lv_aload_n hx hb dX1_passOverTones_211 rfl (lv_at hl 9 rfl) ?_
                    refine lv_aload_n hx hb dX1_passOverTones_212 rfl (lv_at hl 11 rfl) ?_
                    refine lv_iload hx hb dX1_passOverTones_213 (lv_at hl 3 rfl) ?_
                    refine k_Vi F w (As := [.ref (B + a), .int (zI v8_65)]) (rest := []) (a := 23) (kd_lt (a := 23) (show kd 23 = (1, 0, 0) from rfl) (by decide)) (sh_1 rfl _ _) rfl (q_X1_drop (a := a) hka (t := v8_65) (by omega)  hIL65) gv_X1_114 hv_X1_drop ⟨(Nat.le_of_ble_eq_true rfl), (Nat.le_of_ble_eq_true rfl)⟩ hl.1 rfl (Nat.le_of_ble_eq_true rfl) ⟨Nat.zero_le _, Nat.zero_le _⟩ dX1_passOverTones_215 (fun r83 N84 H locs hp w => ?_)
                    obtain ⟨z85, rfl, bz85, hIN84, hFN84⟩ := hp
                    have hGN84 := Fr.tr hFL65 hFN84 (S := (fun b9 k9 => b9 = (a + 1) ∨ b9 = (a + 2) ∨ b9 = a)) (fun b k h => by first | omega | (dsimp only at h ⊢; omega))
                    refine lv_istore (lv' := [(11, .int (zI z85)), (10, .int (zI v10_65)), (9, .int (zI v9_65)), (8, .int (zI v8_65)), (7, .int (zI z8)), (6, .int (zI z7)), (5, .int (zI o3)), (4, .int (zI z2)), (3, .int (zI z1)), (0, .ref (B + 23)), (1, .ref (B + u1)), (2, .ref (B + a))]) hx hb dX1_passOverTones_218 hl (by decide) rfl (fun ls hl => ?_)
                    refine lv_goto (tgt := 249) hx hb dX1_passOverTones_220 (by decide) ?_
                    refine lv_iload_n hx hb dX1_passOverTones_249 rfl (lv_at hl 8 rfl) ?_
                    refine lv_iconst (v := zI 2) hx hb dX1_passOverTones_250 rfl ?_
                    refine z_icmp_ne (tgt := 273) hx hb (by omega) (by omega) dX1_passOverTones_251 (by decide) (fun c86 => ?_) (fun c86 => False.elim (by omega))
                    refine lv_iload hx hb dX1_passOverTones_273 (lv_at hl 2 rfl) ?_
                    refine lv_iload hx hb dX1_passOverTones_275 (lv_at hl 0 rfl) ?_
                    obtain ⟨z87, bz87, x0z87, ez87⟩ := add_ex v9_65 z85
                    refine lv_iadd hx hb dX1_passOverTones_277 ?_
                    refine r_val ez87 ?_
                    refine lv_istore (lv' := [(9, .int (zI z87)), (11, .int (zI z85)), (10, .int (zI v10_65)), (8, .int (zI v8_65)), (7, .int (zI z8)), (6, .int (zI z7)), (5, .int (zI o3)), (4, .int (zI z2)), (3, .int (zI z1)), (0, .ref (B + 23)), (1, .ref (B + u1)), (2, .ref (B + a))]) hx hb dX1_passOverTones_278 hl (by decide) rfl (fun ls hl => ?_)
                    refine lv_iload hx hb dX1_passOverTones_280 (lv_at hl 3 rfl) ?_
                    refine lv_iload hx hb dX1_passOverTones_282 (lv_at hl 5 rfl) ?_
                    refine z_if_eq (tgt := 291) hx hb (by omega) dX1_passOverTones_284 (by decide) (fun c88 => ?_) (fun c88 => False.elim (by omega))
                    refine lv_iload_n hx hb dX1_passOverTones_291 rfl (lv_at hl 8 rfl) ?_
                    refine lv_iconst (v := zI 5) hx hb dX1_passOverTones_292 rfl ?_
                    refine z_icmp_ne (tgt := 305) hx hb (by omega) (by omega) dX1_passOverTones_293 (by decide) (fun c89 => False.elim (by omega)) (fun c89 => ?_)
                    refine lv_iload hx hb dX1_passOverTones_296 (lv_at hl 1 rfl) ?_
                    refine z_if_le (tgt := 305) hx hb (by omega) dX1_passOverTones_298 (by decide) (fun c90 => ?_) (fun c90 => ?_)
                    · refine lv_iconst (v := zI 1) hx hb dX1_passOverTones_305 rfl ?_
                      refine z_iadd (z := (v8_65 + 1)) hx hb dX1_passOverTones_306 (by omega) ?_
                      refine lv_istore (lv' := [(8, .int (zI (v8_65 + 1))), (9, .int (zI z87)), (11, .int (zI z85)), (10, .int (zI v10_65)), (7, .int (zI z8)), (6, .int (zI z7)), (5, .int (zI o3)), (4, .int (zI z2)), (3, .int (zI z1)), (0, .ref (B + 23)), (1, .ref (B + u1)), (2, .ref (B + a))]) hx hb dX1_passOverTones_307 hl (by decide) rfl (fun ls hl => ?_)
                      refine z_iinc (v := (v10_65 + 1)) (lv' := [(10, .int (zI (v10_65 + 1))), (8, .int (zI (v8_65 + 1))), (9, .int (zI z87)), (11, .int (zI z85)), (7, .int (zI z8)), (6, .int (zI z7)), (5, .int (zI o3)), (4, .int (zI z2)), (3, .int (zI z1)), (0, .ref (B + 23)), (1, .ref (B + u1)), (2, .ref (B + a))]) hx hb dX1_passOverTones_309 hl (k := 3) rfl (by omega) (by decide) rfl (fun ls hl => ?_)
                      refine lv_goto (tgt := 65) hx hb dX1_passOverTones_312 (by decide) ?_
                      exact ih65 (v10_65 + 1) z87 (v8_65 + 1) N84 (by omega) (by omega) (by omega)    hIN84 hGN84 (by omega) _ _ _ w (lv_sub hl [0, 2, 1, 4, 5, 6, 7, 8, 9, 10, 11] rfl)
                    · refine lv_iconst (v := zI 0) hx hb dX1_passOverTones_301 rfl ?_
                      refine lv_goto (tgt := 306) hx hb dX1_passOverTones_302 (by decide) ?_
                      refine z_iadd (z := v8_65) hx hb dX1_passOverTones_306 (by omega) ?_
                      refine lv_istore (lv' := [(8, .int (zI v8_65)), (9, .int (zI z87)), (11, .int (zI z85)), (10, .int (zI v10_65)), (7, .int (zI z8)), (6, .int (zI z7)), (5, .int (zI o3)), (4, .int (zI z2)), (3, .int (zI z1)), (0, .ref (B + 23)), (1, .ref (B + u1)), (2, .ref (B + a))]) hx hb dX1_passOverTones_307 hl (by decide) rfl (fun ls hl => ?_)
                      refine z_iinc (v := (v10_65 + 1)) (lv' := [(10, .int (zI (v10_65 + 1))), (8, .int (zI v8_65)), (9, .int (zI z87)), (11, .int (zI z85)), (7, .int (zI z8)), (6, .int (zI z7)), (5, .int (zI o3)), (4, .int (zI z2)), (3, .int (zI z1)), (0, .ref (B + 23)), (1, .ref (B + u1)), (2, .ref (B + a))]) hx hb dX1_passOverTones_309 hl (k := 3) rfl (by omega) (by decide) rfl (fun ls hl => ?_)
                      refine lv_goto (tgt := 65) hx hb dX1_passOverTones_312 (by decide) ?_
                      exact ih65 (v10_65 + 1) z87 v8_65 N84 (by omega) (by omega) (by omega)    hIN84 hGN84 (by omega) _ _ _ w (lv_sub hl [0, 2, 1, 4, 5, 6, 7, 8, 9, 10, 11] rfl)
                  · refine r_val (v := zI 6) (congrArg zI c41) ?_
                    refine lv_tableIn (tgt := 223) hx hb dX1_passOverTones_108 (by decide) (by decide) (off := 115) rfl (by decide) ?_
                    refine lv_aload_n hx hb dX1_passOverTones_223 rfl (lv_at hl 9 rfl) ?_
                    refine lv_aload_n hx hb dX1_passOverTones_224 rfl (lv_at hl 11 rfl) ?_
                    refine lv_iload hx hb dX1_passOverTones_225 (lv_at hl 3 rfl) ?_
                    refine k_Vi F w (As := [.ref (B + a), .int (zI v8_65)]) (rest := []) (a := 23) (kd_lt (a := 23) (show kd 23 = (1, 0, 0) from rfl) (by decide)) (sh_1 rfl _ _) rfl (q_X1_fuse (a := a) hka (t := v8_65) (by omega)  hIL65) gv_X1_117 hv_X1_fuse ⟨(Nat.le_of_ble_eq_true rfl), (Nat.le_of_ble_eq_true rfl)⟩ hl.1 rfl (Nat.le_of_ble_eq_true rfl) ⟨Nat.zero_le _, Nat.zero_le _⟩ dX1_passOverTones_227 (fun r91 N92 H locs hp w => ?_)
                    obtain ⟨z93, rfl, bz93, hIN92, hFN92⟩ := hp
                    have hGN92 := Fr.tr hFL65 hFN92 (S := (fun b9 k9 => b9 = (a + 1) ∨ b9 = (a + 2) ∨ b9 = a)) (fun b k h => by first | omega | (dsimp only at h ⊢; omega))
                    refine lv_istore (lv' := [(11, .int (zI z93)), (10, .int (zI v10_65)), (9, .int (zI v9_65)), (8, .int (zI v8_65)), (7, .int (zI z8)), (6, .int (zI z7)), (5, .int (zI o3)), (4, .int (zI z2)), (3, .int (zI z1)), (0, .ref (B + 23)), (1, .ref (B + u1)), (2, .ref (B + a))]) hx hb dX1_passOverTones_230 hl (by decide) rfl (fun ls hl => ?_)
                    refine lv_goto (tgt := 249) hx hb dX1_passOverTones_232 (by decide) ?_
                    refine lv_iload_n hx hb dX1_passOverTones_249 rfl (lv_at hl 8 rfl) ?_
                    refine lv_iconst (v := zI 2) hx hb dX1_passOverTones_250 rfl ?_
                    refine z_icmp_ne (tgt := 273) hx hb (by omega) (by omega) dX1_passOverTones_251 (by decide) (fun c94 => ?_) (fun c94 => False.elim (by omega))
                    refine lv_iload hx hb dX1_passOverTones_273 (lv_at hl 2 rfl) ?_
                    refine lv_iload hx hb dX1_passOverTones_275 (lv_at hl 0 rfl) ?_
                    obtain ⟨z95, bz95, x0z95, ez95⟩ := add_ex v9_65 z93
                    refine lv_iadd hx hb dX1_passOverTones_277 ?_
                    refine r_val ez95 ?_
                    refine lv_istore (lv' := [(9, .int (zI z95)), (11, .int (zI z93)), (10, .int (zI v10_65)), (8, .int (zI v8_65)), (7, .int (zI z8)), (6, .int (zI z7)), (5, .int (zI o3)), (4, .int (zI z2)), (3, .int (zI z1)), (0, .ref (B + 23)), (1, .ref (B + u1)), (2, .ref (B + a))]) hx hb dX1_passOverTones_278 hl (by decide) rfl (fun ls hl => ?_)
                    refine lv_iload hx hb dX1_passOverTones_280 (lv_at hl 3 rfl) ?_
                    refine lv_iload hx hb dX1_passOverTones_282 (lv_at hl 5 rfl) ?_
                    refine z_if_eq (tgt := 291) hx hb (by omega) dX1_passOverTones_284 (by decide) (fun c96 => ?_) (fun c96 => False.elim (by omega))
                    refine lv_iload_n hx hb dX1_passOverTones_291 rfl (lv_at hl 8 rfl) ?_
                    refine lv_iconst (v := zI 5) hx hb dX1_passOverTones_292 rfl ?_
                    refine z_icmp_ne (tgt := 305) hx hb (by omega) (by omega) dX1_passOverTones_293 (by decide) (fun c97 => ?_) (fun c97 => False.elim (by omega))
                    refine lv_iconst (v := zI 1) hx hb dX1_passOverTones_305 rfl ?_
                    refine z_iadd (z := (v8_65 + 1)) hx hb dX1_passOverTones_306 (by omega) ?_
                    refine lv_istore (lv' := [(8, .int (zI (v8_65 + 1))), (9, .int (zI z95)), (11, .int (zI z93)), (10, .int (zI v10_65)), (7, .int (zI z8)), (6, .int (zI z7)), (5, .int (zI o3)), (4, .int (zI z2)), (3, .int (zI z1)), (0, .ref (B + 23)), (1, .ref (B + u1)), (2, .ref (B + a))]) hx hb dX1_passOverTones_307 hl (by decide) rfl (fun ls hl => ?_)
                    refine z_iinc (v := (v10_65 + 1)) (lv' := [(10, .int (zI (v10_65 + 1))), (8, .int (zI (v8_65 + 1))), (9, .int (zI z95)), (11, .int (zI z93)), (7, .int (zI z8)), (6, .int (zI z7)), (5, .int (zI o3)), (4, .int (zI z2)), (3, .int (zI z1)), (0, .ref (B + 23)), (1, .ref (B + u1)), (2, .ref (B + a))]) hx hb dX1_passOverTones_309 hl (k := 3) rfl (by omega) (by decide) rfl (fun ls hl => ?_)
                    refine lv_goto (tgt := 65) hx hb dX1_passOverTones_312 (by decide) ?_
                    exact ih65 (v10_65 + 1) z95 (v8_65 + 1) N92 (by omega) (by omega) (by omega)    hIN92 hGN92 (by omega) _ _ _ w (lv_sub hl [0, 2, 1, 4, 5, 6, 7, 8, 9, 10, 11] rfl)
                  · refine r_val (v := zI 7) (congrArg zI c41) ?_
                    refine lv_tableIn (tgt := 235) hx hb dX1_passOverTones_108 (by decide) (by decide) (off := 127) rfl (by decide) ?_
                    refine lv_aload_n hx hb dX1_passOverTones_235 rfl (lv_at hl 9 rfl) ?_
                    refine lv_aload_n hx hb dX1_passOverTones_236 rfl (lv_at hl 11 rfl) ?_
                    refine lv_iload hx hb dX1_passOverTones_237 (lv_at hl 3 rfl) ?_
                    refine lv_iload hx hb dX1_passOverTones_239 (lv_at hl 7 rfl) ?_
                    refine k_Vi F w (As := [.ref (B + a), .int (zI v8_65), .int (zI z2)]) (rest := []) (a := 23) (kd_lt (a := 23) (show kd 23 = (1, 0, 0) from rfl) (by decide)) (sh_1 rfl _ _) rfl (q_X1_turnTo (a := a) hka (t := v8_65) (by omega) (x := z2) (by omega)  hIL65) gv_X1_120 hv_X1_turnTo ⟨(Nat.le_of_ble_eq_true rfl), (Nat.le_of_ble_eq_true rfl)⟩ hl.1 rfl (Nat.le_of_ble_eq_true rfl) ⟨Nat.zero_le _, Nat.zero_le _⟩ dX1_passOverTones_241 (fun r98 N99 H locs hp w => ?_)
                    obtain ⟨z100, rfl, bz100, hIN99, hFN99⟩ := hp
                    have hGN99 := Fr.tr hFL65 hFN99 (S := (fun b9 k9 => b9 = (a + 1) ∨ b9 = (a + 2) ∨ b9 = a)) (fun b k h => by first | omega | (dsimp only at h ⊢; omega))
                    have kn101 : N99.1 a 0 = zI z11 := (hFN99 a 0 (by first | omega | (dsimp only; omega))).trans (ez11)
                    refine lv_istore (lv' := [(11, .int (zI z100)), (10, .int (zI v10_65)), (9, .int (zI v9_65)), (8, .int (zI v8_65)), (7, .int (zI z8)), (6, .int (zI z7)), (5, .int (zI o3)), (4, .int (zI z2)), (3, .int (zI z1)), (0, .ref (B + 23)), (1, .ref (B + u1)), (2, .ref (B + a))]) hx hb dX1_passOverTones_244 hl (by decide) rfl (fun ls hl => ?_)
                    refine lv_goto (tgt := 249) hx hb dX1_passOverTones_246 (by decide) ?_
                    refine lv_iload_n hx hb dX1_passOverTones_249 rfl (lv_at hl 8 rfl) ?_
                    refine lv_iconst (v := zI 2) hx hb dX1_passOverTones_250 rfl ?_
                    refine z_icmp_ne (tgt := 273) hx hb (by omega) (by omega) dX1_passOverTones_251 (by decide) (fun c102 => ?_) (fun c102 => False.elim (by omega))
                    refine lv_iload hx hb dX1_passOverTones_273 (lv_at hl 2 rfl) ?_
                    refine lv_iload hx hb dX1_passOverTones_275 (lv_at hl 0 rfl) ?_
                    obtain ⟨z103, bz103, x0z103, ez103⟩ := add_ex v9_65 z100
                    refine lv_iadd hx hb dX1_passOverTones_277 ?_
                    refine r_val ez103 ?_
                    refine lv_istore (lv' := [(9, .int (zI z103)), (11, .int (zI z100)), (10, .int (zI v10_65)), (8, .int (zI v8_65)), (7, .int (zI z8)), (6, .int (zI z7)), (5, .int (zI o3)), (4, .int (zI z2)), (3, .int (zI z1)), (0, .ref (B + 23)), (1, .ref (B + u1)), (2, .ref (B + a))]) hx hb dX1_passOverTones_278 hl (by decide) rfl (fun ls hl => ?_)
                    refine lv_iload hx hb dX1_passOverTones_280 (lv_at hl 3 rfl) ?_
                    refine lv_iload hx hb dX1_passOverTones_282 (lv_at hl 5 rfl) ?_
                    refine z_if_eq (tgt := 291) hx hb (by omega) dX1_passOverTones_284 (by decide) (fun c104 => ?_) (fun c104 => False.elim (by omega))
                    refine lv_iload_n hx hb dX1_passOverTones_291 rfl (lv_at hl 8 rfl) ?_
                    refine lv_iconst (v := zI 5) hx hb dX1_passOverTones_292 rfl ?_
                    refine z_icmp_ne (tgt := 305) hx hb (by omega) (by omega) dX1_passOverTones_293 (by decide) (fun c105 => ?_) (fun c105 => False.elim (by omega))
                    refine lv_iconst (v := zI 1) hx hb dX1_passOverTones_305 rfl ?_
                    refine z_iadd (z := (v8_65 + 1)) hx hb dX1_passOverTones_306 (by omega) ?_
                    refine lv_istore (lv' := [(8, .int (zI (v8_65 + 1))), (9, .int (zI z103)), (11, .int (zI z100)), (10, .int (zI v10_65)), (7, .int (zI z8)), (6, .int (zI z7)), (5, .int (zI o3)), (4, .int (zI z2)), (3, .int (zI z1)), (0, .ref (B + 23)), (1, .ref (B + u1)), (2, .ref (B + a))]) hx hb dX1_passOverTones_307 hl (by decide) rfl (fun ls hl => ?_)
                    refine z_iinc (v := (v10_65 + 1)) (lv' := [(10, .int (zI (v10_65 + 1))), (8, .int (zI (v8_65 + 1))), (9, .int (zI z103)), (11, .int (zI z100)), (7, .int (zI z8)), (6, .int (zI z7)), (5, .int (zI o3)), (4, .int (zI z2)), (3, .int (zI z1)), (0, .ref (B + 23)), (1, .ref (B + u1)), (2, .ref (B + a))]) hx hb dX1_passOverTones_309 hl (k := 3) rfl (by omega) (by decide) rfl (fun ls hl => ?_)
                    refine lv_goto (tgt := 65) hx hb dX1_passOverTones_312 (by decide) ?_
                    exact ih65 (v10_65 + 1) z103 (v8_65 + 1) N99 (by omega) (by omega) (by omega)    hIN99 hGN99 (by omega) _ _ _ w (lv_sub hl [0, 2, 1, 4, 5, 6, 7, 8, 9, 10, 11] rfl)
                  · refine lv_tableOut (tgt := 249) hx hb dX1_passOverTones_108 (by rw [zI_toInt (by omega)]; omega) (by decide) ?_
                    refine lv_iload_n hx hb dX1_passOverTones_249 rfl (lv_at hl 8 rfl) ?_
                    refine lv_iconst (v := zI 2) hx hb dX1_passOverTones_250 rfl ?_
                    refine z_icmp_ne (tgt := 273) hx hb (by omega) (by omega) dX1_passOverTones_251 (by decide) (fun c106 => ?_) (fun c106 => ?_)
                    · refine lv_iload hx hb dX1_passOverTones_273 (lv_at hl 2 rfl) ?_
                      refine lv_iload hx hb dX1_passOverTones_275 (lv_at hl 0 rfl) ?_
                      refine z_iadd (z := v9_65) hx hb dX1_passOverTones_277 (by omega) ?_
                      refine lv_istore (lv' := [(9, .int (zI v9_65)), (11, .int (zI 0)), (10, .int (zI v10_65)), (8, .int (zI v8_65)), (7, .int (zI z8)), (6, .int (zI z7)), (5, .int (zI o3)), (4, .int (zI z2)), (3, .int (zI z1)), (0, .ref (B + 23)), (1, .ref (B + u1)), (2, .ref (B + a))]) hx hb dX1_passOverTones_278 hl (by decide) rfl (fun ls hl => ?_)
                      refine lv_iload hx hb dX1_passOverTones_280 (lv_at hl 3 rfl) ?_
                      refine lv_iload hx hb dX1_passOverTones_282 (lv_at hl 5 rfl) ?_
                      refine z_if_eq (tgt := 291) hx hb (by omega) dX1_passOverTones_284 (by decide) (fun c107 => ?_) (fun c107 => False.elim (by omega))
                      refine lv_iload_n hx hb dX1_passOverTones_291 rfl (lv_at hl 8 rfl) ?_
                      refine lv_iconst (v := zI 5) hx hb dX1_passOverTones_292 rfl ?_
                      refine z_icmp_ne (tgt := 305) hx hb (by omega) (by omega) dX1_passOverTones_293 (by decide) (fun c108 => ?_) (fun c108 => ?_)
                      · refine lv_iconst (v := zI 1) hx hb dX1_passOverTones_305 rfl ?_
                        refine z_iadd (z := (v8_65 + 1)) hx hb dX1_passOverTones_306 (by omega) ?_
                        refine lv_istore (lv' := [(8, .int (zI (v8_65 + 1))), (9, .int (zI v9_65)), (11, .int (zI 0)), (10, .int (zI v10_65)), (7, .int (zI z8)), (6, .int (zI z7)), (5, .int (zI o3)), (4, .int (zI z2)), (3, .int (zI z1)), (0, .ref (B + 23)), (1, .ref (B + u1)), (2, .ref (B + a))]) hx hb dX1_passOverTones_307 hl (by decide) rfl (fun ls hl => ?_)
                        refine z_iinc (v := (v10_65 + 1)) (lv' := [(10, .int (zI (v10_65 + 1))), (8, .int (zI (v8_65 + 1))), (9, .int (zI v9_65)), (11, .int (zI 0)), (7, .int (zI z8)), (6, .int (zI z7)), (5, .int (zI o3)), (4, .int (zI z2)), (3, .int (zI z1)), (0, .ref (B + 23)), (1, .ref (B + u1)), (2, .ref (B + a))]) hx hb dX1_passOverTones_309 hl (k := 3) rfl (by omega) (by decide) rfl (fun ls hl => ?_)
                        refine lv_goto (tgt := 65) hx hb dX1_passOverTones_312 (by decide) ?_
                        exact ih65 (v10_65 + 1) v9_65 (v8_65 + 1) NL65 (by omega) (by omega) (by omega)    hIL65 hFL65 (by omega) _ _ _ w (lv_sub hl [0, 2, 1, 4, 5, 6, 7, 8, 9, 10, 11] rfl)
                      · refine lv_iload hx hb dX1_passOverTones_296 (lv_at hl 1 rfl) ?_
                        refine z_if_le (tgt := 305) hx hb (by omega) dX1_passOverTones_298 (by decide) (fun c109 => ?_) (fun c109 => False.elim (by omega))
                        refine lv_iconst (v := zI 1) hx hb dX1_passOverTones_305 rfl ?_
                        refine z_iadd (z := (v8_65 + 1)) hx hb dX1_passOverTones_306 (by omega) ?_
                        refine lv_istore (lv' := [(8, .int (zI (v8_65 + 1))), (9, .int (zI v9_65)), (11, .int (zI 0)), (10, .int (zI v10_65)), (7, .int (zI z8)), (6, .int (zI z7)), (5, .int (zI o3)), (4, .int (zI z2)), (3, .int (zI z1)), (0, .ref (B + 23)), (1, .ref (B + u1)), (2, .ref (B + a))]) hx hb dX1_passOverTones_307 hl (by decide) rfl (fun ls hl => ?_)
                        refine z_iinc (v := (v10_65 + 1)) (lv' := [(10, .int (zI (v10_65 + 1))), (8, .int (zI (v8_65 + 1))), (9, .int (zI v9_65)), (11, .int (zI 0)), (7, .int (zI z8)), (6, .int (zI z7)), (5, .int (zI o3)), (4, .int (zI z2)), (3, .int (zI z1)), (0, .ref (B + 23)), (1, .ref (B + u1)), (2, .ref (B + a))]) hx hb dX1_passOverTones_309 hl (k := 3) rfl (by omega) (by decide) rfl (fun ls hl => ?_)
                        refine lv_goto (tgt := 65) hx hb dX1_passOverTones_312 (by decide) ?_
                        exact ih65 (v10_65 + 1) v9_65 (v8_65 + 1) NL65 (by omega) (by omega) (by omega)    hIL65 hFL65 (by omega) _ _ _ w (lv_sub hl [0, 2, 1, 4, 5, 6, 7, 8, 9, 10, 11] rfl)
                    · refine lv_iload hx hb dX1_passOverTones_254 (lv_at hl 0 rfl) ?_
                      refine z_if_le (tgt := 273) hx hb (by omega) dX1_passOverTones_256 (by decide) (fun c110 => ?_) (fun c110 => False.elim (by omega))
                      refine lv_iload hx hb dX1_passOverTones_273 (lv_at hl 2 rfl) ?_
                      refine lv_iload hx hb dX1_passOverTones_275 (lv_at hl 0 rfl) ?_
                      refine z_iadd (z := v9_65) hx hb dX1_passOverTones_277 (by omega) ?_
                      refine lv_istore (lv' := [(9, .int (zI v9_65)), (11, .int (zI 0)), (10, .int (zI v10_65)), (8, .int (zI v8_65)), (7, .int (zI z8)), (6, .int (zI z7)), (5, .int (zI o3)), (4, .int (zI z2)), (3, .int (zI z1)), (0, .ref (B + 23)), (1, .ref (B + u1)), (2, .ref (B + a))]) hx hb dX1_passOverTones_278 hl (by decide) rfl (fun ls hl => ?_)
                      refine lv_iload hx hb dX1_passOverTones_280 (lv_at hl 3 rfl) ?_
                      refine lv_iload hx hb dX1_passOverTones_282 (lv_at hl 5 rfl) ?_
                      refine z_if_eq (tgt := 291) hx hb (by omega) dX1_passOverTones_284 (by decide) (fun c111 => ?_) (fun c111 => False.elim (by omega))
                      refine lv_iload_n hx hb dX1_passOverTones_291 rfl (lv_at hl 8 rfl) ?_
                      refine lv_iconst (v := zI 5) hx hb dX1_passOverTones_292 rfl ?_
                      refine z_icmp_ne (tgt := 305) hx hb (by omega) (by omega) dX1_passOverTones_293 (by decide) (fun c112 => ?_) (fun c112 => False.elim (by omega))
                      refine lv_iconst (v := zI 1) hx hb dX1_passOverTones_305 rfl ?_
                      refine z_iadd (z := (v8_65 + 1)) hx hb dX1_passOverTones_306 (by omega) ?_
                      refine lv_istore (lv' := [(8, .int (zI (v8_65 + 1))), (9, .int (zI v9_65)), (11, .int (zI 0)), (10, .int (zI v10_65)), (7, .int (zI z8)), (6, .int (zI z7)), (5, .int (zI o3)), (4, .int (zI z2)), (3, .int (zI z1)), (0, .ref (B + 23)), (1, .ref (B + u1)), (2, .ref (B + a))]) hx hb dX1_passOverTones_307 hl (by decide) rfl (fun ls hl => ?_)
                      refine z_iinc (v := (v10_65 + 1)) (lv' := [(10, .int (zI (v10_65 + 1))), (8, .int (zI (v8_65 + 1))), (9, .int (zI v9_65)), (11, .int (zI 0)), (7, .int (zI z8)), (6, .int (zI z7)), (5, .int (zI o3)), (4, .int (zI z2)), (3, .int (zI z1)), (0, .ref (B + 23)), (1, .ref (B + u1)), (2, .ref (B + a))]) hx hb dX1_passOverTones_309 hl (k := 3) rfl (by omega) (by decide) rfl (fun ls hl => ?_)
                      refine lv_goto (tgt := 65) hx hb dX1_passOverTones_312 (by decide) ?_
                      exact ih65 (v10_65 + 1) v9_65 (v8_65 + 1) NL65 (by omega) (by omega) (by omega)    hIL65 hFL65 (by omega) _ _ _ w (lv_sub hl [0, 2, 1, 4, 5, 6, 7, 8, 9, 10, 11] rfl)
      exact lp65 _ 0 0 0 M (by omega) (by omega) (by omega) hI hF (Nat.lt_succ_self _) _ _ _ w (lv_sub hl [0, 1, 2, 3, 4, 5, 6, 7, 8, 9, 10] rfl)
    · refine lv_iload hx hb dX1_passOverTones_49 (lv_at hl 0 rfl) ?_
      refine lv_iconst (v := zI 1) hx hb dX1_passOverTones_51 rfl ?_
      refine z_isub (z := (z8 - 1)) hx hb dX1_passOverTones_52 (by omega) ?_
      refine lv_goto (tgt := 57) hx hb dX1_passOverTones_53 (by decide) ?_
      refine lv_istore (lv' := [(8, .int (zI (z8 - 1))), (7, .int (zI z8)), (6, .int (zI z7)), (5, .int (zI o3)), (4, .int (zI z2)), (3, .int (zI z1)), (0, .ref (B + 23)), (1, .ref (B + u1)), (2, .ref (B + a))]) hx hb dX1_passOverTones_57 hl (by decide) rfl (fun ls hl => ?_)
      refine lv_iconst (v := zI 0) hx hb dX1_passOverTones_59 rfl ?_
      refine lv_istore (lv' := [(9, .int (zI 0)), (8, .int (zI (z8 - 1))), (7, .int (zI z8)), (6, .int (zI z7)), (5, .int (zI o3)), (4, .int (zI z2)), (3, .int (zI z1)), (0, .ref (B + 23)), (1, .ref (B + u1)), (2, .ref (B + a))]) hx hb dX1_passOverTones_60 hl (by decide) rfl (fun ls hl => ?_)
      refine lv_iconst (v := zI 0) hx hb dX1_passOverTones_62 rfl ?_
      refine lv_istore (lv' := [(10, .int (zI 0)), (9, .int (zI 0)), (8, .int (zI (z8 - 1))), (7, .int (zI z8)), (6, .int (zI z7)), (5, .int (zI o3)), (4, .int (zI z2)), (3, .int (zI z1)), (0, .ref (B + 23)), (1, .ref (B + u1)), (2, .ref (B + a))]) hx hb dX1_passOverTones_63 hl (by decide) rfl (fun ls hl => ?_)
      have lp65 : ∀ (f : Nat) (v10_65 : Int) (v9_65 : Int) (v8_65 : Int)  (NL65 : Mem), (0 ≤ v10_65 ∧ v10_65 ≤ 12) → ((-2147483648) ≤ v9_65 ∧ v9_65 ≤ 2147483647) → ((-1) ≤ v8_65 ∧ v8_65 ≤ 11) → Inv NL65 → Fr (fun b9 k9 => b9 = (a + 1) ∨ b9 = (a + 2) ∨ b9 = a) NL65 M → (Int.toNat (12 - v10_65) < f) → ∀ (H : Heap) (locs : List Loc) (ls : Array Slot), Wd D B cy s s.heap NL65 H locs → lv_has ls 12 [(10, .int (zI v10_65)), (9, .int (zI v9_65)), (8, .int (zI v8_65)), (7, .int (zI z8)), (6, .int (zI z7)), (5, .int (zI o3)), (4, .int (zI z2)), (3, .int (zI z1)), (0, .ref (B + 23)), (1, .ref (B + u1)), (2, .ref (B + a))] → W p l e (rmm 3 77) s m args below meth c H locs 0 0 Q (F0 m 65 ls []) := by
        intro f
        induction f with
        | zero => intros; omega
        | succ f ih65 =>
          intro v10_65 v9_65 v8_65  NL65 iv10_65 iv9_65 iv8_65 hIL65 hFL65 hf65 H locs ls w hl
          refine lv_iload hx hb dX1_passOverTones_65 (lv_at hl 0 rfl) ?_
          refine lv_iload hx hb dX1_passOverTones_67 (lv_at hl 3 rfl) ?_
          refine z_icmp_ge (tgt := 315) hx hb (by omega) (by omega) dX1_passOverTones_69 (by decide) (fun c113 => ?_) (fun c113 => ?_)
          · refine lv_iload hx hb dX1_passOverTones_315 (lv_at hl 1 rfl) ?_
            rw [hQ]
            exact e_i F w hr hlocks ⟨_, rfl, (by omega), hIL65, hFL65⟩ dX1_passOverTones_317
          · refine lv_aload_n hx hb dX1_passOverTones_72 rfl (lv_at hl 10 rfl) ?_
            refine lv_iload hx hb dX1_passOverTones_73 (lv_at hl 2 rfl) ?_
            obtain ⟨z114, bz114, ez114⟩ := Inv.ld (k := 0) hIL65 (iv_w0 hka) (by have := lt_w hka; omega)
            refine k_Vi F w (As := [.int (zI v8_65)]) (rest := []) (a := a) (kd_lt (a := a) hka (by decide)) (sh_9 hka _ _) rfl (q_X9_hasTone (a := a) hka (t := v8_65) (by omega) (nn := z114) (ez114) (by omega)  hIL65) gv_X1_47 hv_X9_hasTone ⟨(Nat.le_of_ble_eq_true rfl), (Nat.le_of_ble_eq_true rfl)⟩ hl.1 rfl (Nat.le_of_ble_eq_true rfl) ⟨Nat.zero_le _, Nat.zero_le _⟩ dX1_passOverTones_75 (fun r115 N116 H locs hp w => ?_)
            obtain ⟨z117, rfl, bz117, xz117, hMN116⟩ := hp
            rw [hMN116] at w
            refine z_if_eq (tgt := 315) hx hb (by omega) dX1_passOverTones_78 (by decide) (fun c118 => ?_) (fun c118 => ?_)
            · refine lv_iload hx hb dX1_passOverTones_315 (lv_at hl 1 rfl) ?_
              rw [hQ]
              exact e_i F w hr hlocks ⟨_, rfl, (by omega), hIL65, hFL65⟩ dX1_passOverTones_317
            · refine lv_iconst (v := zI 0) hx hb dX1_passOverTones_81 rfl ?_
              refine lv_istore (lv' := [(11, .int (zI 0)), (10, .int (zI v10_65)), (9, .int (zI v9_65)), (8, .int (zI v8_65)), (7, .int (zI z8)), (6, .int (zI z7)), (5, .int (zI o3)), (4, .int (zI z2)), (3, .int (zI z1)), (0, .ref (B + 23)), (1, .ref (B + u1)), (2, .ref (B + a))]) hx hb dX1_passOverTones_82 hl (by decide) rfl (fun ls hl => ?_)
              refine lv_aload_n hx hb dX1_passOverTones_84 rfl (lv_at hl 10 rfl) ?_
              refine lv_aload_n hx hb dX1_passOverTones_85 rfl (lv_at hl 11 rfl) ?_
              refine lv_iload hx hb dX1_passOverTones_86 (lv_at hl 3 rfl) ?_
              refine k_Vi F w (As := [.int (zI v8_65)]) (rest := [.ref (B + u1)]) (a := a) (kd_lt (a := a) hka (by decide)) (sh_9 hka _ _) rfl (q_X9_kindOf (a := a) hka (t := v8_65) (by omega)  hIL65) gv_X1_94 hv_X9_kindOf ⟨(Nat.le_of_ble_eq_true rfl), (Nat.le_of_ble_eq_true rfl)⟩ hl.1 rfl (Nat.le_of_ble_eq_true rfl) ⟨Nat.zero_le _, Nat.zero_le _⟩ dX1_passOverTones_88 (fun r119 N120 H locs hp w => ?_)
              obtain ⟨z121, rfl, bz121, hMN120⟩ := hp
              rw [hMN120] at w
              refine k_Vi F w (As := [.int (zI z121)]) (rest := []) (a := u1) (kd_lt (a := u1) hku1 (by decide)) (sh_4 hku1 _ _) rfl (q_X4_isOf (u1 := u1) hku1 (x := z121) (by omega)  hIL65) gv_X1_97 hv_X4_isOf ⟨(Nat.le_of_ble_eq_true rfl), (Nat.le_of_ble_eq_true rfl)⟩ hl.1 rfl (Nat.le_of_ble_eq_true rfl) ⟨Nat.zero_le _, Nat.zero_le _⟩ dX1_passOverTones_91 (fun r122 N123 H locs hp w => ?_)
              obtain ⟨z124, rfl, bz124, hMN123⟩ := hp
              rw [hMN123] at w
              refine z_if_eq (tgt := 249) hx hb (by omega) dX1_passOverTones_94 (by decide) (fun c125 => ?_) (fun c125 => ?_)
              · refine lv_iload_n hx hb dX1_passOverTones_249 rfl (lv_at hl 8 rfl) ?_
                refine lv_iconst (v := zI 2) hx hb dX1_passOverTones_250 rfl ?_
                refine z_icmp_ne (tgt := 273) hx hb (by omega) (by omega) dX1_passOverTones_251 (by decide) (fun c126 => ?_) (fun c126 => ?_)
                · refine lv_iload hx hb dX1_passOverTones_273 (lv_at hl 2 rfl) ?_
                  refine lv_iload hx hb dX1_passOverTones_275 (lv_at hl 0 rfl) ?_
                  refine z_iadd (z := v9_65) hx hb dX1_passOverTones_277 (by omega) ?_
                  refine lv_istore (lv' := [(9, .int (zI v9_65)), (11, .int (zI 0)), (10, .int (zI v10_65)), (8, .int (zI v8_65)), (7, .int (zI z8)), (6, .int (zI z7)), (5, .int (zI o3)), (4, .int (zI z2)), (3, .int (zI z1)), (0, .ref (B + 23)), (1, .ref (B + u1)), (2, .ref (B + a))]) hx hb dX1_passOverTones_278 hl (by decide) rfl (fun ls hl => ?_)
                  refine lv_iload hx hb dX1_passOverTones_280 (lv_at hl 3 rfl) ?_
                  refine lv_iload hx hb dX1_passOverTones_282 (lv_at hl 5 rfl) ?_
                  refine z_if_eq (tgt := 291) hx hb (by omega) dX1_passOverTones_284 (by decide) (fun c127 => False.elim (by omega)) (fun c127 => ?_)
                  refine lv_iconst (v := zI (-1)) hx hb dX1_passOverTones_287 rfl ?_
                  refine lv_goto (tgt := 306) hx hb dX1_passOverTones_288 (by decide) ?_
                  refine z_iadd (z := (v8_65 - 1)) hx hb dX1_passOverTones_306 (by omega) ?_
                  refine lv_istore (lv' := [(8, .int (zI (v8_65 - 1))), (9, .int (zI v9_65)), (11, .int (zI 0)), (10, .int (zI v10_65)), (7, .int (zI z8)), (6, .int (zI z7)), (5, .int (zI o3)), (4, .int (zI z2)), (3, .int (zI z1)), (0, .ref (B + 23)), (1, .ref (B + u1)), (2, .ref (B + a))]) hx hb dX1_passOverTones_307 hl (by decide) rfl (fun ls hl => ?_)
                  refine z_iinc (v := (v10_65 + 1)) (lv' := [(10, .int (zI (v10_65 + 1))), (8, .int (zI (v8_65 - 1))), (9, .int (zI v9_65)), (11, .int (zI 0)), (7, .int (zI z8)), (6, .int (zI z7)), (5, .int (zI o3)), (4, .int (zI z2)), (3, .int (zI z1)), (0, .ref (B + 23)), (1, .ref (B + u1)), (2, .ref (B + a))]) hx hb dX1_passOverTones_309 hl (k := 3) rfl (by omega) (by decide) rfl (fun ls hl => ?_)
                  refine lv_goto (tgt := 65) hx hb dX1_passOverTones_312 (by decide) ?_
                  exact ih65 (v10_65 + 1) v9_65 (v8_65 - 1) NL65 (by omega) (by omega) (by omega)    hIL65 hFL65 (by omega) _ _ _ w (lv_sub hl [0, 2, 1, 4, 5, 6, 7, 8, 9, 10, 11] rfl)
                · refine lv_iload hx hb dX1_passOverTones_254 (lv_at hl 0 rfl) ?_
                  refine z_if_le (tgt := 273) hx hb (by omega) dX1_passOverTones_256 (by decide) (fun c128 => ?_) (fun c128 => False.elim (by omega))
                  refine lv_iload hx hb dX1_passOverTones_273 (lv_at hl 2 rfl) ?_
                  refine lv_iload hx hb dX1_passOverTones_275 (lv_at hl 0 rfl) ?_
                  refine z_iadd (z := v9_65) hx hb dX1_passOverTones_277 (by omega) ?_
                  refine lv_istore (lv' := [(9, .int (zI v9_65)), (11, .int (zI 0)), (10, .int (zI v10_65)), (8, .int (zI v8_65)), (7, .int (zI z8)), (6, .int (zI z7)), (5, .int (zI o3)), (4, .int (zI z2)), (3, .int (zI z1)), (0, .ref (B + 23)), (1, .ref (B + u1)), (2, .ref (B + a))]) hx hb dX1_passOverTones_278 hl (by decide) rfl (fun ls hl => ?_)
                  refine lv_iload hx hb dX1_passOverTones_280 (lv_at hl 3 rfl) ?_
                  refine lv_iload hx hb dX1_passOverTones_282 (lv_at hl 5 rfl) ?_
                  refine z_if_eq (tgt := 291) hx hb (by omega) dX1_passOverTones_284 (by decide) (fun c129 => False.elim (by omega)) (fun c129 => ?_)
                  refine lv_iconst (v := zI (-1)) hx hb dX1_passOverTones_287 rfl ?_
                  refine lv_goto (tgt := 306) hx hb dX1_passOverTones_288 (by decide) ?_
                  refine z_iadd (z := (v8_65 - 1)) hx hb dX1_passOverTones_306 (by omega) ?_
                  refine lv_istore (lv' := [(8, .int (zI (v8_65 - 1))), (9, .int (zI v9_65)), (11, .int (zI 0)), (10, .int (zI v10_65)), (7, .int (zI z8)), (6, .int (zI z7)), (5, .int (zI o3)), (4, .int (zI z2)), (3, .int (zI z1)), (0, .ref (B + 23)), (1, .ref (B + u1)), (2, .ref (B + a))]) hx hb dX1_passOverTones_307 hl (by decide) rfl (fun ls hl => ?_)
                  refine z_iinc (v := (v10_65 + 1)) (lv' := [(10, .int (zI (v10_65 + 1))), (8, .int (zI (v8_65 - 1))), (9, .int (zI v9_65)), (11, .int (zI 0)), (7, .int (zI z8)), (6, .int (zI z7)), (5, .int (zI o3)), (4, .int (zI z2)), (3, .int (zI z1)), (0, .ref (B + 23)), (1, .ref (B + u1)), (2, .ref (B + a))]) hx hb dX1_passOverTones_309 hl (k := 3) rfl (by omega) (by decide) rfl (fun ls hl => ?_)
                  refine lv_goto (tgt := 65) hx hb dX1_passOverTones_312 (by decide) ?_
                  exact ih65 (v10_65 + 1) v9_65 (v8_65 - 1) NL65 (by omega) (by omega) (by omega)    hIL65 hFL65 (by omega) _ _ _ w (lv_sub hl [0, 2, 1, 4, 5, 6, 7, 8, 9, 10, 11] rfl)
              · refine lv_aload_n hx hb dX1_passOverTones_97 rfl (lv_at hl 10 rfl) ?_
                refine lv_aload_n hx hb dX1_passOverTones_98 rfl (lv_at hl 11 rfl) ?_
                refine lv_iload hx hb dX1_passOverTones_99 (lv_at hl 3 rfl) ?_
                refine k_Vi F w (As := [.ref (B + a), .int (zI v8_65)]) (rest := []) (a := u1) (kd_lt (a := u1) hku1 (by decide)) (sh_4 hku1 _ _) rfl (q_X4_admits (u1 := u1) hku1 (a := a) hka (t := v8_65) (by omega)  hIL65) gv_X1_100 hv_X4_admits ⟨(Nat.le_of_ble_eq_true rfl), (Nat.le_of_ble_eq_true rfl)⟩ hl.1 rfl (Nat.le_of_ble_eq_true rfl) ⟨Nat.zero_le _, Nat.zero_le _⟩ dX1_passOverTones_101 (fun r130 N131 H locs hp w => ?_)
                obtain ⟨z132, rfl, bz132, hMN131⟩ := hp
                rw [hMN131] at w
                refine z_if_eq (tgt := 249) hx hb (by omega) dX1_passOverTones_104 (by decide) (fun c133 => ?_) (fun c133 => ?_)
                · refine lv_iload_n hx hb dX1_passOverTones_249 rfl (lv_at hl 8 rfl) ?_
                  refine lv_iconst (v := zI 2) hx hb dX1_passOverTones_250 rfl ?_
                  refine z_icmp_ne (tgt := 273) hx hb (by omega) (by omega) dX1_passOverTones_251 (by decide) (fun c134 => ?_) (fun c134 => ?_)
                  · refine lv_iload hx hb dX1_passOverTones_273 (lv_at hl 2 rfl) ?_
                    refine lv_iload hx hb dX1_passOverTones_275 (lv_at hl 0 rfl) ?_
                    refine z_iadd (z := v9_65) hx hb dX1_passOverTones_277 (by omega) ?_
                    refine lv_istore (lv' := [(9, .int (zI v9_65)), (11, .int (zI 0)), (10, .int (zI v10_65)), (8, .int (zI v8_65)), (7, .int (zI z8)), (6, .int (zI z7)), (5, .int (zI o3)), (4, .int (zI z2)), (3, .int (zI z1)), (0, .ref (B + 23)), (1, .ref (B + u1)), (2, .ref (B + a))]) hx hb dX1_passOverTones_278 hl (by decide) rfl (fun ls hl => ?_)
                    refine lv_iload hx hb dX1_passOverTones_280 (lv_at hl 3 rfl) ?_
                    refine lv_iload hx hb dX1_passOverTones_282 (lv_at hl 5 rfl) ?_
                    refine z_if_eq (tgt := 291) hx hb (by omega) dX1_passOverTones_284 (by decide) (fun c135 => False.elim (by omega)) (fun c135 => ?_)
                    refine lv_iconst (v := zI (-1)) hx hb dX1_passOverTones_287 rfl ?_
                    refine lv_goto (tgt := 306) hx hb dX1_passOverTones_288 (by decide) ?_
                    refine z_iadd (z := (v8_65 - 1)) hx hb dX1_passOverTones_306 (by omega) ?_
                    refine lv_istore (lv' := [(8, .int (zI (v8_65 - 1))), (9, .int (zI v9_65)), (11, .int (zI 0)), (10, .int (zI v10_65)), (7, .int (zI z8)), (6, .int (zI z7)), (5, .int (zI o3)), (4, .int (zI z2)), (3, .int (zI z1)), (0, .ref (B + 23)), (1, .ref (B + u1)), (2, .ref (B + a))]) hx hb dX1_passOverTones_307 hl (by decide) rfl (fun ls hl => ?_)
                    refine z_iinc (v := (v10_65 + 1)) (lv' := [(10, .int (zI (v10_65 + 1))), (8, .int (zI (v8_65 - 1))), (9, .int (zI v9_65)), (11, .int (zI 0)), (7, .int (zI z8)), (6, .int (zI z7)), (5, .int (zI o3)), (4, .int (zI z2)), (3, .int (zI z1)), (0, .ref (B + 23)), (1, .ref (B + u1)), (2, .ref (B + a))]) hx hb dX1_passOverTones_309 hl (k := 3) rfl (by omega) (by decide) rfl (fun ls hl => ?_)
                    refine lv_goto (tgt := 65) hx hb dX1_passOverTones_312 (by decide) ?_
                    exact ih65 (v10_65 + 1) v9_65 (v8_65 - 1) NL65 (by omega) (by omega) (by omega)    hIL65 hFL65 (by omega) _ _ _ w (lv_sub hl [0, 2, 1, 4, 5, 6, 7, 8, 9, 10, 11] rfl)
                  · refine lv_iload hx hb dX1_passOverTones_254 (lv_at hl 0 rfl) ?_
                    refine z_if_le (tgt := 273) hx hb (by omega) dX1_passOverTones_256 (by decide) (fun c136 => ?_) (fun c136 => False.elim (by omega))
                    refine lv_iload hx hb dX1_passOverTones_273 (lv_at hl 2 rfl) ?_
                    refine lv_iload hx hb dX1_passOverTones_275 (lv_at hl 0 rfl) ?_
                    refine z_iadd (z := v9_65) hx hb dX1_passOverTones_277 (by omega) ?_
                    refine lv_istore (lv' := [(9, .int (zI v9_65)), (11, .int (zI 0)), (10, .int (zI v10_65)), (8, .int (zI v8_65)), (7, .int (zI z8)), (6, .int (zI z7)), (5, .int (zI o3)), (4, .int (zI z2)), (3, .int (zI z1)), (0, .ref (B + 23)), (1, .ref (B + u1)), (2, .ref (B + a))]) hx hb dX1_passOverTones_278 hl (by decide) rfl (fun ls hl => ?_)
                    refine lv_iload hx hb dX1_passOverTones_280 (lv_at hl 3 rfl) ?_
                    refine lv_iload hx hb dX1_passOverTones_282 (lv_at hl 5 rfl) ?_
                    refine z_if_eq (tgt := 291) hx hb (by omega) dX1_passOverTones_284 (by decide) (fun c137 => False.elim (by omega)) (fun c137 => ?_)
                    refine lv_iconst (v := zI (-1)) hx hb dX1_passOverTones_287 rfl ?_
                    refine lv_goto (tgt := 306) hx hb dX1_passOverTones_288 (by decide) ?_
                    refine z_iadd (z := (v8_65 - 1)) hx hb dX1_passOverTones_306 (by omega) ?_
                    refine lv_istore (lv' := [(8, .int (zI (v8_65 - 1))), (9, .int (zI v9_65)), (11, .int (zI 0)), (10, .int (zI v10_65)), (7, .int (zI z8)), (6, .int (zI z7)), (5, .int (zI o3)), (4, .int (zI z2)), (3, .int (zI z1)), (0, .ref (B + 23)), (1, .ref (B + u1)), (2, .ref (B + a))]) hx hb dX1_passOverTones_307 hl (by decide) rfl (fun ls hl => ?_)
                    refine z_iinc (v := (v10_65 + 1)) (lv' := [(10, .int (zI (v10_65 + 1))), (8, .int (zI (v8_65 - 1))), (9, .int (zI v9_65)), (11, .int (zI 0)), (7, .int (zI z8)), (6, .int (zI z7)), (5, .int (zI o3)), (4, .int (zI z2)), (3, .int (zI z1)), (0, .ref (B + 23)), (1, .ref (B + u1)), (2, .ref (B + a))]) hx hb dX1_passOverTones_309 hl (k := 3) rfl (by omega) (by decide) rfl (fun ls hl => ?_)
                    refine lv_goto (tgt := 65) hx hb dX1_passOverTones_312 (by decide) ?_
                    exact ih65 (v10_65 + 1) v9_65 (v8_65 - 1) NL65 (by omega) (by omega) (by omega)    hIL65 hFL65 (by omega) _ _ _ w (lv_sub hl [0, 2, 1, 4, 5, 6, 7, 8, 9, 10, 11] rfl)
                · refine lv_iload_n hx hb dX1_passOverTones_107 rfl (lv_at hl 8 rfl) ?_
                  rcases (show z1 = 1 ∨ z1 = 2 ∨ z1 = 3 ∨ z1 = 4 ∨ z1 = 5 ∨ z1 = 6 ∨ z1 = 7 ∨ (z1 ≠ 1 ∧ z1 ≠ 2 ∧ z1 ≠ 3 ∧ z1 ≠ 4 ∧ z1 ≠ 5 ∧ z1 ≠ 6 ∧ z1 ≠ 7) by omega) with c138 | c138 | c138 | c138 | c138 | c138 | c138 | c138
                  · refine r_val (v := zI 1) (congrArg zI c138) ?_
                    refine lv_tableIn (tgt := 152) hx hb dX1_passOverTones_108 (by decide) (by decide) (off := 44) rfl (by decide) ?_
                    refine lv_aload_n hx hb dX1_passOverTones_152 rfl (lv_at hl 9 rfl) ?_
                    refine lv_aload_n hx hb dX1_passOverTones_153 rfl (lv_at hl 11 rfl) ?_
                    refine lv_iload hx hb dX1_passOverTones_154 (lv_at hl 3 rfl) ?_
                    refine lv_iload hx hb dX1_passOverTones_156 (lv_at hl 5 rfl) ?_
                    refine lv_iload hx hb dX1_passOverTones_158 (lv_at hl 7 rfl) ?_
                    refine k_Vi F w (As := [.ref (B + a), .int (zI v8_65), .int (zI z7), .int (zI z2)]) (rest := []) (a := 23) (kd_lt (a := 23) (show kd 23 = (1, 0, 0) from rfl) (by decide)) (sh_1 rfl _ _) rfl (q_X1_spread (a := a) hka (t := v8_65) (by omega) (x := z7) (by omega) (x1 := z2) (by omega)  hIL65) gv_X1_104 hv_X1_spread ⟨(Nat.le_of_ble_eq_true rfl), (Nat.le_of_ble_eq_true rfl)⟩ hl.1 rfl (Nat.le_of_ble_eq_true rfl) ⟨Nat.zero_le _, Nat.zero_le _⟩ dX1_passOverTones_160 (fun r139 N140 H locs hp w => ?_)
                    obtain ⟨z141, rfl, bz141, hIN140, hFN140⟩ := hp
                    have hGN140 := Fr.tr hFL65 hFN140 (S := (fun b9 k9 => b9 = (a + 1) ∨ b9 = (a + 2) ∨ b9 = a)) (fun b k h => by first | omega | (dsimp only at h ⊢; omega))
                    have kn142 : N140.1 a 0 = zI z114 := (hFN140 a 0 (by first | omega | (dsimp only; omega))).trans (ez114)
                    refine lv_istore (lv' := [(11, .int (zI z141)), (10, .int (zI v10_65)), (9, .int (zI v9_65)), (8, .int (zI v8_65)), (7, .int (zI z8)), (6, .int (zI z7)), (5, .int (zI o3)), (4, .int (zI z2)), (3, .int (zI z1)), (0, .ref (B + 23)), (1, .ref (B + u1)), (2, .ref (B + a))]) hx hb dX1_passOverTones_163 hl (by decide) rfl (fun ls hl => ?_)
                    refine lv_goto (tgt := 249) hx hb dX1_passOverTones_165 (by decide) ?_
                    refine lv_iload_n hx hb dX1_passOverTones_249 rfl (lv_at hl 8 rfl) ?_
                    refine lv_iconst (v := zI 2) hx hb dX1_passOverTones_250 rfl ?_
                    refine z_icmp_ne (tgt := 273) hx hb (by omega) (by omega) dX1_passOverTones_251 (by decide) (fun c143 => ?_) (fun c143 => False.elim (by omega))
                    refine lv_iload hx hb dX1_passOverTones_273 (lv_at hl 2 rfl) ?_
                    refine lv_iload hx hb dX1_passOverTones_275 (lv_at hl 0 rfl) ?_
                    obtain ⟨z144, bz144, x0z144, ez144⟩ := add_ex v9_65 z141
                    refine lv_iadd hx hb dX1_passOverTones_277 ?_
                    refine r_val ez144 ?_
                    refine lv_istore (lv' := [(9, .int (zI z144)), (11, .int (zI z141)), (10, .int (zI v10_65)), (8, .int (zI v8_65)), (7, .int (zI z8)), (6, .int (zI z7)), (5, .int (zI o3)), (4, .int (zI z2)), (3, .int (zI z1)), (0, .ref (B + 23)), (1, .ref (B + u1)), (2, .ref (B + a))]) hx hb dX1_passOverTones_278 hl (by decide) rfl (fun ls hl => ?_)
                    refine lv_iload hx hb dX1_passOverTones_280 (lv_at hl 3 rfl) ?_
                    refine lv_iload hx hb dX1_passOverTones_282 (lv_at hl 5 rfl) ?_
                    refine z_if_eq (tgt := 291) hx hb (by omega) dX1_passOverTones_284 (by decide) (fun c145 => False.elim (by omega)) (fun c145 => ?_)
                    refine lv_iconst (v := zI (-1)) hx hb dX1_passOverTones_287 rfl ?_
                    refine lv_goto (tgt := 306) hx hb dX1_passOverTones_288 (by decide) ?_
                    refine z_iadd (z := (v8_65 - 1)) hx hb dX1_passOverTones_306 (by omega) ?_
                    refine lv_istore (lv' := [(8, .int (zI (v8_65 - 1))), (9, .int (zI z144)), (11, .int (zI z141)), (10, .int (zI v10_65)), (7, .int (zI z8)), (6, .int (zI z7)), (5, .int (zI o3)), (4, .int (zI z2)), (3, .int (zI z1)), (0, .ref (B + 23)), (1, .ref (B + u1)), (2, .ref (B + a))]) hx hb dX1_passOverTones_307 hl (by decide) rfl (fun ls hl => ?_)
                    refine z_iinc (v := (v10_65 + 1)) (lv' := [(10, .int (zI (v10_65 + 1))), (8, .int (zI (v8_65 - 1))), (9, .int (zI z144)), (11, .int (zI z141)), (7, .int (zI z8)), (6, .int (zI z7)), (5, .int (zI o3)), (4, .int (zI z2)), (3, .int (zI z1)), (0, .ref (B + 23)), (1, .ref (B + u1)), (2, .ref (B + a))]) hx hb dX1_passOverTones_309 hl (k := 3) rfl (by omega) (by decide) rfl (fun ls hl => ?_)
                    refine lv_goto (tgt := 65) hx hb dX1_passOverTones_312 (by decide) ?_
                    exact ih65 (v10_65 + 1) z144 (v8_65 - 1) N140 (by omega) (by omega) (by omega)    hIN140 hGN140 (by omega) _ _ _ w (lv_sub hl [0, 2, 1, 4, 5, 6, 7, 8, 9, 10, 11] rfl)
                  · refine r_val (v := zI 2) (congrArg zI c138) ?_
                    refine lv_tableIn (tgt := 168) hx hb dX1_passOverTones_108 (by decide) (by decide) (off := 60) rfl (by decide) ?_
                    refine lv_aload_n hx hb dX1_passOverTones_168 rfl (lv_at hl 9 rfl) ?_
                    refine lv_aload_n hx hb dX1_passOverTones_169 rfl (lv_at hl 11 rfl) ?_
                    refine lv_iload hx hb dX1_passOverTones_170 (lv_at hl 3 rfl) ?_
                    refine lv_iload hx hb dX1_passOverTones_172 (lv_at hl 5 rfl) ?_
                    refine lv_iconst (v := zI 1) hx hb dX1_passOverTones_174 rfl ?_
                    refine k_Vi F w (As := [.ref (B + a), .int (zI v8_65), .int (zI z7), .int (zI 1)]) (rest := []) (a := 23) (kd_lt (a := 23) (show kd 23 = (1, 0, 0) from rfl) (by decide)) (sh_1 rfl _ _) rfl (q_X1_spread (a := a) hka (t := v8_65) (by omega) (x := z7) (by omega) (x1 := 1) (by omega)  hIL65) gv_X1_104 hv_X1_spread ⟨(Nat.le_of_ble_eq_true rfl), (Nat.le_of_ble_eq_true rfl)⟩ hl.1 rfl (Nat.le_of_ble_eq_true rfl) ⟨Nat.zero_le _, Nat.zero_le _⟩ dX1_passOverTones_175 (fun r146 N147 H locs hp w => ?_)
                    obtain ⟨z148, rfl, bz148, hIN147, hFN147⟩ := hp
                    have hGN147 := Fr.tr hFL65 hFN147 (S := (fun b9 k9 => b9 = (a + 1) ∨ b9 = (a + 2) ∨ b9 = a)) (fun b k h => by first | omega | (dsimp only at h ⊢; omega))
                    have kn149 : N147.1 a 0 = zI z114 := (hFN147 a 0 (by first | omega | (dsimp only; omega))).trans (ez114)
                    refine lv_istore (lv' := [(11, .int (zI z148)), (10, .int (zI v10_65)), (9, .int (zI v9_65)), (8, .int (zI v8_65)), (7, .int (zI z8)), (6, .int (zI z7)), (5, .int (zI o3)), (4, .int (zI z2)), (3, .int (zI z1)), (0, .ref (B + 23)), (1, .ref (B + u1)), (2, .ref (B + a))]) hx hb dX1_passOverTones_178 hl (by decide) rfl (fun ls hl => ?_)
                    refine lv_goto (tgt := 249) hx hb dX1_passOverTones_180 (by decide) ?_
                    refine lv_iload_n hx hb dX1_passOverTones_249 rfl (lv_at hl 8 rfl) ?_
                    refine lv_iconst (v := zI 2) hx hb dX1_passOverTones_250 rfl ?_
                    refine z_icmp_ne (tgt := 273) hx hb (by omega) (by omega) dX1_passOverTones_251 (by decide) (fun c150 => False.elim (by omega)) (fun c150 => ?_)
                    refine lv_iload hx hb dX1_passOverTones_254 (lv_at hl 0 rfl) ?_
                    refine z_if_le (tgt := 273) hx hb (by omega) dX1_passOverTones_256 (by decide) (fun c151 => ?_) (fun c151 => ?_)
                    · refine lv_iload hx hb dX1_passOverTones_273 (lv_at hl 2 rfl) ?_
                      refine lv_iload hx hb dX1_passOverTones_275 (lv_at hl 0 rfl) ?_
                      obtain ⟨z152, bz152, x0z152, ez152⟩ := add_ex v9_65 z148
                      refine lv_iadd hx hb dX1_passOverTones_277 ?_
                      refine r_val ez152 ?_
                      refine lv_istore (lv' := [(9, .int (zI z152)), (11, .int (zI z148)), (10, .int (zI v10_65)), (8, .int (zI v8_65)), (7, .int (zI z8)), (6, .int (zI z7)), (5, .int (zI o3)), (4, .int (zI z2)), (3, .int (zI z1)), (0, .ref (B + 23)), (1, .ref (B + u1)), (2, .ref (B + a))]) hx hb dX1_passOverTones_278 hl (by decide) rfl (fun ls hl => ?_)
                      refine lv_iload hx hb dX1_passOverTones_280 (lv_at hl 3 rfl) ?_
                      refine lv_iload hx hb dX1_passOverTones_282 (lv_at hl 5 rfl) ?_
                      refine z_if_eq (tgt := 291) hx hb (by omega) dX1_passOverTones_284 (by decide) (fun c153 => False.elim (by omega)) (fun c153 => ?_)
                      refine lv_iconst (v := zI (-1)) hx hb dX1_passOverTones_287 rfl ?_
                      refine lv_goto (tgt := 306) hx hb dX1_passOverTones_288 (by decide) ?_
                      refine z_iadd (z := (v8_65 - 1)) hx hb dX1_passOverTones_306 (by omega) ?_
                      refine lv_istore (lv' := [(8, .int (zI (v8_65 - 1))), (9, .int (zI z152)), (11, .int (zI z148)), (10, .int (zI v10_65)), (7, .int (zI z8)), (6, .int (zI z7)), (5, .int (zI o3)), (4, .int (zI z2)), (3, .int (zI z1)), (0, .ref (B + 23)), (1, .ref (B + u1)), (2, .ref (B + a))]) hx hb dX1_passOverTones_307 hl (by decide) rfl (fun ls hl => ?_)
                      refine z_iinc (v := (v10_65 + 1)) (lv' := [(10, .int (zI (v10_65 + 1))), (8, .int (zI (v8_65 - 1))), (9, .int (zI z152)), (11, .int (zI z148)), (7, .int (zI z8)), (6, .int (zI z7)), (5, .int (zI o3)), (4, .int (zI z2)), (3, .int (zI z1)), (0, .ref (B + 23)), (1, .ref (B + u1)), (2, .ref (B + a))]) hx hb dX1_passOverTones_309 hl (k := 3) rfl (by omega) (by decide) rfl (fun ls hl => ?_)
                      refine lv_goto (tgt := 65) hx hb dX1_passOverTones_312 (by decide) ?_
                      exact ih65 (v10_65 + 1) z152 (v8_65 - 1) N147 (by omega) (by omega) (by omega)    hIN147 hGN147 (by omega) _ _ _ w (lv_sub hl [0, 2, 1, 4, 5, 6, 7, 8, 9, 10, 11] rfl)
                    · refine lv_iload hx hb dX1_passOverTones_259 (lv_at hl 0 rfl) ?_
                      refine lv_aload_n hx hb dX1_passOverTones_261 rfl (lv_at hl 9 rfl) ?_
                      refine lv_aload_n hx hb dX1_passOverTones_262 rfl (lv_at hl 11 rfl) ?_
                      refine lv_iload hx hb dX1_passOverTones_263 (lv_at hl 3 rfl) ?_
                      refine lv_iload hx hb dX1_passOverTones_265 (lv_at hl 5 rfl) ?_
                      refine k_Vi F w (As := [.ref (B + a), .int (zI v8_65), .int (zI z7)]) (rest := [.int (zI z148)]) (a := 23) (kd_lt (a := 23) (show kd 23 = (1, 0, 0) from rfl) (by decide)) (sh_1 rfl _ _) rfl (q_X1_leave (a := a) hka (t := v8_65) (by omega) (x := z7) (by omega)  hIN147) gv_X1_124 hv_X1_leave ⟨(Nat.le_of_ble_eq_true rfl), (Nat.le_of_ble_eq_true rfl)⟩ hl.1 rfl (Nat.le_of_ble_eq_true rfl) ⟨Nat.zero_le _, Nat.zero_le _⟩ dX1_passOverTones_267 (fun r154 N155 H locs hp w => ?_)
                      obtain ⟨z156, rfl, bz156, hIN155, hFN155⟩ := hp
                      have hGN155 := Fr.tr hGN147 hFN155 (S := (fun b9 k9 => b9 = (a + 1) ∨ b9 = (a + 2) ∨ b9 = a)) (fun b k h => by first | omega | (dsimp only at h ⊢; omega))
                      have kn157 : N155.1 a 0 = zI z114 := (hFN155 a 0 (by first | omega | (dsimp only; omega))).trans (kn149)
                      obtain ⟨z158, bz158, x0z158, ez158⟩ := add_ex z148 z156
                      refine lv_iadd hx hb dX1_passOverTones_270 ?_
                      refine r_val ez158 ?_
                      refine lv_istore (lv' := [(11, .int (zI z158)), (10, .int (zI v10_65)), (9, .int (zI v9_65)), (8, .int (zI v8_65)), (7, .int (zI z8)), (6, .int (zI z7)), (5, .int (zI o3)), (4, .int (zI z2)), (3, .int (zI z1)), (0, .ref (B + 23)), (1, .ref (B + u1)), (2, .ref (B + a))]) hx hb dX1_passOverTones_271 hl (by decide) rfl (fun ls hl => ?_)
                      refine lv_iload hx hb dX1_passOverTones_273 (lv_at hl 2 rfl) ?_
                      refine lv_iload hx hb dX1_passOverTones_275 (lv_at hl 0 rfl) ?_
                      obtain ⟨z159, bz159, x0z159, ez159⟩ := add_ex v9_65 z158
                      refine lv_iadd hx hb dX1_passOverTones_277 ?_
                      refine r_val ez159 ?_
                      refine lv_istore (lv' := [(9, .int (zI z159)), (11, .int (zI z158)), (10, .int (zI v10_65)), (8, .int (zI v8_65)), (7, .int (zI z8)), (6, .int (zI z7)), (5, .int (zI o3)), (4, .int (zI z2)), (3, .int (zI z1)), (0, .ref (B + 23)), (1, .ref (B + u1)), (2, .ref (B + a))]) hx hb dX1_passOverTones_278 hl (by decide) rfl (fun ls hl => ?_)
                      refine lv_iload hx hb dX1_passOverTones_280 (lv_at hl 3 rfl) ?_
                      refine lv_iload hx hb dX1_passOverTones_282 (lv_at hl 5 rfl) ?_
                      refine z_if_eq (tgt := 291) hx hb (by omega) dX1_passOverTones_284 (by decide) (fun c160 => False.elim (by omega)) (fun c160 => ?_)
                      refine lv_iconst (v := zI (-1)) hx hb dX1_passOverTones_287 rfl ?_
                      refine lv_goto (tgt := 306) hx hb dX1_passOverTones_288 (by decide) ?_
                      refine z_iadd (z := (v8_65 - 1)) hx hb dX1_passOverTones_306 (by omega) ?_
                      refine lv_istore (lv' := [(8, .int (zI (v8_65 - 1))), (9, .int (zI z159)), (11, .int (zI z158)), (10, .int (zI v10_65)), (7, .int (zI z8)), (6, .int (zI z7)), (5, .int (zI o3)), (4, .int (zI z2)), (3, .int (zI z1)), (0, .ref (B + 23)), (1, .ref (B + u1)), (2, .ref (B + a))]) hx hb dX1_passOverTones_307 hl (by decide) rfl (fun ls hl => ?_)
                      refine z_iinc (v := (v10_65 + 1)) (lv' := [(10, .int (zI (v10_65 + 1))), (8, .int (zI (v8_65 - 1))), (9, .int (zI z159)), (11, .int (zI z158)), (7, .int (zI z8)), (6, .int (zI z7)), (5, .int (zI o3)), (4, .int (zI z2)), (3, .int (zI z1)), (0, .ref (B + 23)), (1, .ref (B + u1)), (2, .ref (B + a))]) hx hb dX1_passOverTones_309 hl (k := 3) rfl (by omega) (by decide) rfl (fun ls hl => ?_)
                      refine lv_goto (tgt := 65) hx hb dX1_passOverTones_312 (by decide) ?_
                      exact ih65 (v10_65 + 1) z159 (v8_65 - 1) N155 (by omega) (by omega) (by omega)    hIN155 hGN155 (by omega) _ _ _ w (lv_sub hl [0, 2, 1, 4, 5, 6, 7, 8, 9, 10, 11] rfl)
                  · refine r_val (v := zI 3) (congrArg zI c138) ?_
                    refine lv_tableIn (tgt := 183) hx hb dX1_passOverTones_108 (by decide) (by decide) (off := 75) rfl (by decide) ?_
                    refine lv_aload_n hx hb dX1_passOverTones_183 rfl (lv_at hl 9 rfl) ?_
                    refine lv_aload_n hx hb dX1_passOverTones_184 rfl (lv_at hl 11 rfl) ?_
                    refine lv_iload hx hb dX1_passOverTones_185 (lv_at hl 3 rfl) ?_
                    refine lv_iload hx hb dX1_passOverTones_187 (lv_at hl 6 rfl) ?_
                    refine k_Vi F w (As := [.ref (B + a), .int (zI v8_65), .int (zI o3)]) (rest := []) (a := 23) (kd_lt (a := 23) (show kd 23 = (1, 0, 0) from rfl) (by decide)) (sh_1 rfl _ _) rfl (q_X1_cutOff (a := a) hka (t := v8_65) (by omega) (x := o3) (by omega)  hIL65) gv_X1_108 hv_X1_cutOff ⟨(Nat.le_of_ble_eq_true rfl), (Nat.le_of_ble_eq_true rfl)⟩ hl.1 rfl (Nat.le_of_ble_eq_true rfl) ⟨Nat.zero_le _, Nat.zero_le _⟩ dX1_passOverTones_189 (fun r161 N162 H locs hp w => ?_)
                    obtain ⟨z163, rfl, bz163, hIN162, hFN162⟩ := hp
                    have hGN162 := Fr.tr hFL65 hFN162 (S := (fun b9 k9 => b9 = (a + 1) ∨ b9 = (a + 2) ∨ b9 = a)) (fun b k h => by first | omega | (dsimp only at h ⊢; omega))
                    have kn164 : N162.1 a 0 = zI z114 := (hFN162 a 0 (by first | omega | (dsimp only; omega))).trans (ez114)
                    refine lv_istore (lv' := [(11, .int (zI z163)), (10, .int (zI v10_65)), (9, .int (zI v9_65)), (8, .int (zI v8_65)), (7, .int (zI z8)), (6, .int (zI z7)), (5, .int (zI o3)), (4, .int (zI z2)), (3, .int (zI z1)), (0, .ref (B + 23)), (1, .ref (B + u1)), (2, .ref (B + a))]) hx hb dX1_passOverTones_192 hl (by decide) rfl (fun ls hl => ?_)
                    refine lv_goto (tgt := 249) hx hb dX1_passOverTones_194 (by decide) ?_
                    refine lv_iload_n hx hb dX1_passOverTones_249 rfl (lv_at hl 8 rfl) ?_
                    refine lv_iconst (v := zI 2) hx hb dX1_passOverTones_250 rfl ?_
                    refine z_icmp_ne (tgt := 273) hx hb (by omega) (by omega) dX1_passOverTones_251 (by decide) (fun c165 => ?_) (fun c165 => False.elim (by omega))
                    refine lv_iload hx hb dX1_passOverTones_273 (lv_at hl 2 rfl) ?_
                    refine lv_iload hx hb dX1_passOverTones_275 (lv_at hl 0 rfl) ?_
                    obtain ⟨z166, bz166, x0z166, ez166⟩ := add_ex v9_65 z163
                    refine lv_iadd hx hb dX1_passOverTones_277 ?_
                    refine r_val ez166 ?_
                    refine lv_istore (lv' := [(9, .int (zI z166)), (11, .int (zI z163)), (10, .int (zI v10_65)), (8, .int (zI v8_65)), (7, .int (zI z8)), (6, .int (zI z7)), (5, .int (zI o3)), (4, .int (zI z2)), (3, .int (zI z1)), (0, .ref (B + 23)), (1, .ref (B + u1)), (2, .ref (B + a))]) hx hb dX1_passOverTones_278 hl (by decide) rfl (fun ls hl => ?_)
                    refine lv_iload hx hb dX1_passOverTones_280 (lv_at hl 3 rfl) ?_
                    refine lv_iload hx hb dX1_passOverTones_282 (lv_at hl 5 rfl) ?_
                    refine z_if_eq (tgt := 291) hx hb (by omega) dX1_passOverTones_284 (by decide) (fun c167 => False.elim (by omega)) (fun c167 => ?_)
                    refine lv_iconst (v := zI (-1)) hx hb dX1_passOverTones_287 rfl ?_
                    refine lv_goto (tgt := 306) hx hb dX1_passOverTones_288 (by decide) ?_
                    refine z_iadd (z := (v8_65 - 1)) hx hb dX1_passOverTones_306 (by omega) ?_
                    refine lv_istore (lv' := [(8, .int (zI (v8_65 - 1))), (9, .int (zI z166)), (11, .int (zI z163)), (10, .int (zI v10_65)), (7, .int (zI z8)), (6, .int (zI z7)), (5, .int (zI o3)), (4, .int (zI z2)), (3, .int (zI z1)), (0, .ref (B + 23)), (1, .ref (B + u1)), (2, .ref (B + a))]) hx hb dX1_passOverTones_307 hl (by decide) rfl (fun ls hl => ?_)
                    refine z_iinc (v := (v10_65 + 1)) (lv' := [(10, .int (zI (v10_65 + 1))), (8, .int (zI (v8_65 - 1))), (9, .int (zI z166)), (11, .int (zI z163)), (7, .int (zI z8)), (6, .int (zI z7)), (5, .int (zI o3)), (4, .int (zI z2)), (3, .int (zI z1)), (0, .ref (B + 23)), (1, .ref (B + u1)), (2, .ref (B + a))]) hx hb dX1_passOverTones_309 hl (k := 3) rfl (by omega) (by decide) rfl (fun ls hl => ?_)
                    refine lv_goto (tgt := 65) hx hb dX1_passOverTones_312 (by decide) ?_
                    exact ih65 (v10_65 + 1) z166 (v8_65 - 1) N162 (by omega) (by omega) (by omega)    hIN162 hGN162 (by omega) _ _ _ w (lv_sub hl [0, 2, 1, 4, 5, 6, 7, 8, 9, 10, 11] rfl)
                  · refine r_val (v := zI 4) (congrArg zI c138) ?_
                    refine lv_tableIn (tgt := 197) hx hb dX1_passOverTones_108 (by decide) (by decide) (off := 89) rfl (by decide) ?_
                    refine lv_aload_n hx hb dX1_passOverTones_197 rfl (lv_at hl 9 rfl) ?_
                    refine lv_aload_n hx hb dX1_passOverTones_198 rfl (lv_at hl 11 rfl) ?_
                    refine lv_iload hx hb dX1_passOverTones_199 (lv_at hl 3 rfl) ?_
                    refine lv_iload hx hb dX1_passOverTones_201 (lv_at hl 5 rfl) ?_
                    refine k_Vi F w (As := [.ref (B + a), .int (zI v8_65), .int (zI z7)]) (rest := []) (a := 23) (kd_lt (a := 23) (show kd 23 = (1, 0, 0) from rfl) (by decide)) (sh_1 rfl _ _) rfl (q_X1_dock (a := a) hka (t := v8_65) (by omega) (x := z7) (by omega)  hIL65) gv_X1_111 hv_X1_dock ⟨(Nat.le_of_ble_eq_true rfl), (Nat.le_of_ble_eq_true rfl)⟩ hl.1 rfl (Nat.le_of_ble_eq_true rfl) ⟨Nat.zero_le _, Nat.zero_le _⟩ dX1_passOverTones_203 (fun r168 N169 H locs hp w => ?_)
                    obtain ⟨z170, rfl, bz170, hIN169, hFN169⟩ := hp
                    have hGN169 := Fr.tr hFL65 hFN169 (S := (fun b9 k9 => b9 = (a + 1) ∨ b9 = (a + 2) ∨ b9 = a)) (fun b k h => by first | omega | (dsimp only at h ⊢; omega))
                    have kn171 : N169.1 a 0 = zI z114 := (hFN169 a 0 (by first | omega | (dsimp only; omega))).trans (ez114)
                    refine lv_istore (lv' := [(11, .int (zI z170)), (10, .int (zI v10_65)), (9, .int (zI v9_65)), (8, .int (zI v8_65)), (7, .int (zI z8)), (6, .int (zI z7)), (5, .int (zI o3)), (4, .int (zI z2)), (3, .int (zI z1)), (0, .ref (B + 23)), (1, .ref (B + u1)), (2, .ref (B + a))]) hx hb dX1_passOverTones_206 hl (by decide) rfl (fun ls hl => ?_)
                    refine lv_goto (tgt := 249) hx hb dX1_passOverTones_208 (by decide) ?_
                    refine lv_iload_n hx hb dX1_passOverTones_249 rfl (lv_at hl 8 rfl) ?_
                    refine lv_iconst (v := zI 2) hx hb dX1_passOverTones_250 rfl ?_
                    refine z_icmp_ne (tgt := 273) hx hb (by omega) (by omega) dX1_passOverTones_251 (by decide) (fun c172 => ?_) (fun c172 => False.elim (by omega))
                    refine lv_iload hx hb dX1_passOverTones_273 (lv_at hl 2 rfl) ?_
                    refine lv_iload hx hb dX1_passOverTones_275 (lv_at hl 0 rfl) ?_
                    obtain ⟨z173, bz173, x0z173, ez173⟩ := add_ex v9_65 z170
                    refine lv_iadd hx hb dX1_passOverTones_277 ?_
                    refine r_val ez173 ?_
                    refine lv_istore (lv' := [(9, .int (zI z173)), (11, .int (zI z170)), (10, .int (zI v10_65)), (8, .int (zI v8_65)), (7, .int (zI z8)), (6, .int (zI z7)), (5, .int (zI o3)), (4, .int (zI z2)), (3, .int (zI z1)), (0, .ref (B + 23)), (1, .ref (B + u1)), (2, .ref (B + a))]) hx hb dX1_passOverTones_278 hl (by decide) rfl (fun ls hl => ?_)
                    refine lv_iload hx hb dX1_passOverTones_280 (lv_at hl 3 rfl) ?_
                    refine lv_iload hx hb dX1_passOverTones_282 (lv_at hl 5 rfl) ?_
                    refine z_if_eq (tgt := 291) hx hb (by omega) dX1_passOverTones_284 (by decide) (fun c174 => False.elim (by omega)) (fun c174 => ?_)
                    refine lv_iconst (v := zI (-1)) hx hb dX1_passOverTones_287 rfl ?_
                    refine lv_goto (tgt := 306) hx hb dX1_passOverTones_288 (by decide) ?_
                    refine z_iadd (z := (v8_65 - 1)) hx hb dX1_passOverTones_306 (by omega) ?_
                    refine lv_istore (lv' := [(8, .int (zI (v8_65 - 1))), (9, .int (zI z173)), (11, .int (zI z170)), (10, .int (zI v10_65)), (7, .int (zI z8)), (6, .int (zI z7)), (5, .int (zI o3)), (4, .int (zI z2)), (3, .int (zI z1)), (0, .ref (B + 23)), (1, .ref (B + u1)), (2, .ref (B + a))]) hx hb dX1_passOverTones_307 hl (by decide) rfl (fun ls hl => ?_)
                    refine z_iinc (v := (v10_65 + 1)) (lv' := [(10, .int (zI (v10_65 + 1))), (8, .int (zI (v8_65 - 1))), (9, .int (zI z173)), (11, .int (zI z170)), (7, .int (zI z8)), (6, .int (zI z7)), (5, .int (zI o3)), (4, .int (zI z2)), (3, .int (zI z1)), (0, .ref (B + 23)), (1, .ref (B + u1)), (2, .ref (B + a))]) hx hb dX1_passOverTones_309 hl (k := 3) rfl (by omega) (by decide) rfl (fun ls hl => ?_)
                    refine lv_goto (tgt := 65) hx hb dX1_passOverTones_312 (by decide) ?_
                    exact ih65 (v10_65 + 1) z173 (v8_65 - 1) N169 (by omega) (by omega) (by omega)    hIN169 hGN169 (by omega) _ _ _ w (lv_sub hl [0, 2, 1, 4, 5, 6, 7, 8, 9, 10, 11] rfl)
                  · refine r_val (v := zI 5) (congrArg zI c138) ?_
                    refine lv_tableIn (tgt := 211) hx hb dX1_passOverTones_108 (by decide) (by decide) (off := 103) rfl (by decide) ?_
                    refine lv_aload_n hx hb dX1_passOverTones_211 rfl (lv_at hl 9 rfl) ?_
                    refine lv_aload_n hx hb dX1_passOverTones_212 rfl (lv_at hl 11 rfl) ?_
                    refine lv_iload hx hb dX1_passOverTones_213 (lv_at hl 3 rfl) ?_
                    refine k_Vi F w (As := [.ref (B + a), .int (zI v8_65)]) (rest := []) (a := 23) (kd_lt (a := 23) (show kd 23 = (1, 0, 0) from rfl) (by decide)) (sh_1 rfl _ _) rfl (q_X1_drop (a := a) hka (t := v8_65) (by omega)  hIL65) gv_X1_114 hv_X1_drop ⟨(Nat.le_of_ble_eq_true rfl), (Nat.le_of_ble_eq_true rfl)⟩ hl.1 rfl (Nat.le_of_ble_eq_true rfl) ⟨Nat.zero_le _, Nat.zero_le _⟩ dX1_passOverTones_215 (fun r175 N176 H locs hp w => ?_)
                    obtain ⟨z177, rfl, bz177, hIN176, hFN176⟩ := hp
                    have hGN176 := Fr.tr hFL65 hFN176 (S := (fun b9 k9 => b9 = (a + 1) ∨ b9 = (a + 2) ∨ b9 = a)) (fun b k h => by first | omega | (dsimp only at h ⊢; omega))
                    refine lv_istore (lv' := [(11, .int (zI z177)), (10, .int (zI v10_65)), (9, .int (zI v9_65)), (8, .int (zI v8_65)), (7, .int (zI z8)), (6, .int (zI z7)), (5, .int (zI o3)), (4, .int (zI z2)), (3, .int (zI z1)), (0, .ref (B + 23)), (1, .ref (B + u1)), (2, .ref (B + a))]) hx hb dX1_passOverTones_218 hl (by decide) rfl (fun ls hl => ?_)
                    refine lv_goto (tgt := 249) hx hb dX1_passOverTones_220 (by decide) ?_
                    refine lv_iload_n hx hb dX1_passOverTones_249 rfl (lv_at hl 8 rfl) ?_
                    refine lv_iconst (v := zI 2) hx hb dX1_passOverTones_250 rfl ?_
                    refine z_icmp_ne (tgt := 273) hx hb (by omega) (by omega) dX1_passOverTones_251 (by decide) (fun c178 => ?_) (fun c178 => False.elim (by omega))
                    refine lv_iload hx hb dX1_passOverTones_273 (lv_at hl 2 rfl) ?_
                    refine lv_iload hx hb dX1_passOverTones_275 (lv_at hl 0 rfl) ?_
                    obtain ⟨z179, bz179, x0z179, ez179⟩ := add_ex v9_65 z177
                    refine lv_iadd hx hb dX1_passOverTones_277 ?_
                    refine r_val ez179 ?_
                    refine lv_istore (lv' := [(9, .int (zI z179)), (11, .int (zI z177)), (10, .int (zI v10_65)), (8, .int (zI v8_65)), (7, .int (zI z8)), (6, .int (zI z7)), (5, .int (zI o3)), (4, .int (zI z2)), (3, .int (zI z1)), (0, .ref (B + 23)), (1, .ref (B + u1)), (2, .ref (B + a))]) hx hb dX1_passOverTones_278 hl (by decide) rfl (fun ls hl => ?_)
                    refine lv_iload hx hb dX1_passOverTones_280 (lv_at hl 3 rfl) ?_
                    refine lv_iload hx hb dX1_passOverTones_282 (lv_at hl 5 rfl) ?_
                    refine z_if_eq (tgt := 291) hx hb (by omega) dX1_passOverTones_284 (by decide) (fun c180 => False.elim (by omega)) (fun c180 => ?_)
                    refine lv_iconst (v := zI (-1)) hx hb dX1_passOverTones_287 rfl ?_
                    refine lv_goto (tgt := 306) hx hb dX1_passOverTones_288 (by decide) ?_
                    refine z_iadd (z := (v8_65 - 1)) hx hb dX1_passOverTones_306 (by omega) ?_
                    refine lv_istore (lv' := [(8, .int (zI (v8_65 - 1))), (9, .int (zI z179)), (11, .int (zI z177)), (10, .int (zI v10_65)), (7, .int (zI z8)), (6, .int (zI z7)), (5, .int (zI o3)), (4, .int (zI z2)), (3, .int (zI z1)), (0, .ref (B + 23)), (1, .ref (B + u1)), (2, .ref (B + a))]) hx hb dX1_passOverTones_307 hl (by decide) rfl (fun ls hl => ?_)
                    refine z_iinc (v := (v10_65 + 1)) (lv' := [(10, .int (zI (v10_65 + 1))), (8, .int (zI (v8_65 - 1))), (9, .int (zI z179)), (11, .int (zI z177)), (7, .int (zI z8)), (6, .int (zI z7)), (5, .int (zI o3)), (4, .int (zI z2)), (3, .int (zI z1)), (0, .ref (B + 23)), (1, .ref (B + u1)), (2, .ref (B + a))]) hx hb dX1_passOverTones_309 hl (k := 3) rfl (by omega) (by decide) rfl (fun ls hl => ?_)
                    refine lv_goto (tgt := 65) hx hb dX1_passOverTones_312 (by decide) ?_
                    exact ih65 (v10_65 + 1) z179 (v8_65 - 1) N176 (by omega) (by omega) (by omega)    hIN176 hGN176 (by omega) _ _ _ w (lv_sub hl [0, 2, 1, 4, 5, 6, 7, 8, 9, 10, 11] rfl)
                  · refine r_val (v := zI 6) (congrArg zI c138) ?_
                    refine lv_tableIn (tgt := 223) hx hb dX1_passOverTones_108 (by decide) (by decide) (off := 115) rfl (by decide) ?_
                    refine lv_aload_n hx hb dX1_passOverTones_223 rfl (lv_at hl 9 rfl) ?_
                    refine lv_aload_n hx hb dX1_passOverTones_224 rfl (lv_at hl 11 rfl) ?_
                    refine lv_iload hx hb dX1_passOverTones_225 (lv_at hl 3 rfl) ?_
                    refine k_Vi F w (As := [.ref (B + a), .int (zI v8_65)]) (rest := []) (a := 23) (kd_lt (a := 23) (show kd 23 = (1, 0, 0) from rfl) (by decide)) (sh_1 rfl _ _) rfl (q_X1_fuse (a := a) hka (t := v8_65) (by omega)  hIL65) gv_X1_117 hv_X1_fuse ⟨(Nat.le_of_ble_eq_true rfl), (Nat.le_of_ble_eq_true rfl)⟩ hl.1 rfl (Nat.le_of_ble_eq_true rfl) ⟨Nat.zero_le _, Nat.zero_le _⟩ dX1_passOverTones_227 (fun r181 N182 H locs hp w => ?_)
                    obtain ⟨z183, rfl, bz183, hIN182, hFN182⟩ := hp
                    have hGN182 := Fr.tr hFL65 hFN182 (S := (fun b9 k9 => b9 = (a + 1) ∨ b9 = (a + 2) ∨ b9 = a)) (fun b k h => by first | omega | (dsimp only at h ⊢; omega))
                    refine lv_istore (lv' := [(11, .int (zI z183)), (10, .int (zI v10_65)), (9, .int (zI v9_65)), (8, .int (zI v8_65)), (7, .int (zI z8)), (6, .int (zI z7)), (5, .int (zI o3)), (4, .int (zI z2)), (3, .int (zI z1)), (0, .ref (B + 23)), (1, .ref (B + u1)), (2, .ref (B + a))]) hx hb dX1_passOverTones_230 hl (by decide) rfl (fun ls hl => ?_)
                    refine lv_goto (tgt := 249) hx hb dX1_passOverTones_232 (by decide) ?_
                    refine lv_iload_n hx hb dX1_passOverTones_249 rfl (lv_at hl 8 rfl) ?_
                    refine lv_iconst (v := zI 2) hx hb dX1_passOverTones_250 rfl ?_
                    refine z_icmp_ne (tgt := 273) hx hb (by omega) (by omega) dX1_passOverTones_251 (by decide) (fun c184 => ?_) (fun c184 => False.elim (by omega))
                    refine lv_iload hx hb dX1_passOverTones_273 (lv_at hl 2 rfl) ?_
                    refine lv_iload hx hb dX1_passOverTones_275 (lv_at hl 0 rfl) ?_
                    obtain ⟨z185, bz185, x0z185, ez185⟩ := add_ex v9_65 z183
                    refine lv_iadd hx hb dX1_passOverTones_277 ?_
                    refine r_val ez185 ?_
                    refine lv_istore (lv' := [(9, .int (zI z185)), (11, .int (zI z183)), (10, .int (zI v10_65)), (8, .int (zI v8_65)), (7, .int (zI z8)), (6, .int (zI z7)), (5, .int (zI o3)), (4, .int (zI z2)), (3, .int (zI z1)), (0, .ref (B + 23)), (1, .ref (B + u1)), (2, .ref (B + a))]) hx hb dX1_passOverTones_278 hl (by decide) rfl (fun ls hl => ?_)
                    refine lv_iload hx hb dX1_passOverTones_280 (lv_at hl 3 rfl) ?_
                    refine lv_iload hx hb dX1_passOverTones_282 (lv_at hl 5 rfl) ?_
                    refine z_if_eq (tgt := 291) hx hb (by omega) dX1_passOverTones_284 (by decide) (fun c186 => False.elim (by omega)) (fun c186 => ?_)
                    refine lv_iconst (v := zI (-1)) hx hb dX1_passOverTones_287 rfl ?_
                    refine lv_goto (tgt := 306) hx hb dX1_passOverTones_288 (by decide) ?_
                    refine z_iadd (z := (v8_65 - 1)) hx hb dX1_passOverTones_306 (by omega) ?_
                    refine lv_istore (lv' := [(8, .int (zI (v8_65 - 1))), (9, .int (zI z185)), (11, .int (zI z183)), (10, .int (zI v10_65)), (7, .int (zI z8)), (6, .int (zI z7)), (5, .int (zI o3)), (4, .int (zI z2)), (3, .int (zI z1)), (0, .ref (B + 23)), (1, .ref (B + u1)), (2, .ref (B + a))]) hx hb dX1_passOverTones_307 hl (by decide) rfl (fun ls hl => ?_)
                    refine z_iinc (v := (v10_65 + 1)) (lv' := [(10, .int (zI (v10_65 + 1))), (8, .int (zI (v8_65 - 1))), (9, .int (zI z185)), (11, .int (zI z183)), (7, .int (zI z8)), (6, .int (zI z7)), (5, .int (zI o3)), (4, .int (zI z2)), (3, .int (zI z1)), (0, .ref (B + 23)), (1, .ref (B + u1)), (2, .ref (B + a))]) hx hb dX1_passOverTones_309 hl (k := 3) rfl (by omega) (by decide) rfl (fun ls hl => ?_)
                    refine lv_goto (tgt := 65) hx hb dX1_passOverTones_312 (by decide) ?_
                    exact ih65 (v10_65 + 1) z185 (v8_65 - 1) N182 (by omega) (by omega) (by omega)    hIN182 hGN182 (by omega) _ _ _ w (lv_sub hl [0, 2, 1, 4, 5, 6, 7, 8, 9, 10, 11] rfl)
                  · refine r_val (v := zI 7) (congrArg zI c138) ?_
                    refine lv_tableIn (tgt := 235) hx hb dX1_passOverTones_108 (by decide) (by decide) (off := 127) rfl (by decide) ?_
                    refine lv_aload_n hx hb dX1_passOverTones_235 rfl (lv_at hl 9 rfl) ?_
                    refine lv_aload_n hx hb dX1_passOverTones_236 rfl (lv_at hl 11 rfl) ?_
                    refine lv_iload hx hb dX1_passOverTones_237 (lv_at hl 3 rfl) ?_
                    refine lv_iload hx hb dX1_passOverTones_239 (lv_at hl 7 rfl) ?_
                    refine k_Vi F w (As := [.ref (B + a), .int (zI v8_65), .int (zI z2)]) (rest := []) (a := 23) (kd_lt (a := 23) (show kd 23 = (1, 0, 0) from rfl) (by decide)) (sh_1 rfl _ _) rfl (q_X1_turnTo (a := a) hka (t := v8_65) (by omega) (x := z2) (by omega)  hIL65) gv_X1_120 hv_X1_turnTo ⟨(Nat.le_of_ble_eq_true rfl), (Nat.le_of_ble_eq_true rfl)⟩ hl.1 rfl (Nat.le_of_ble_eq_true rfl) ⟨Nat.zero_le _, Nat.zero_le _⟩ dX1_passOverTones_241 (fun r187 N188 H locs hp w => ?_)
                    obtain ⟨z189, rfl, bz189, hIN188, hFN188⟩ := hp
                    have hGN188 := Fr.tr hFL65 hFN188 (S := (fun b9 k9 => b9 = (a + 1) ∨ b9 = (a + 2) ∨ b9 = a)) (fun b k h => by first | omega | (dsimp only at h ⊢; omega))
                    have kn190 : N188.1 a 0 = zI z114 := (hFN188 a 0 (by first | omega | (dsimp only; omega))).trans (ez114)
                    refine lv_istore (lv' := [(11, .int (zI z189)), (10, .int (zI v10_65)), (9, .int (zI v9_65)), (8, .int (zI v8_65)), (7, .int (zI z8)), (6, .int (zI z7)), (5, .int (zI o3)), (4, .int (zI z2)), (3, .int (zI z1)), (0, .ref (B + 23)), (1, .ref (B + u1)), (2, .ref (B + a))]) hx hb dX1_passOverTones_244 hl (by decide) rfl (fun ls hl => ?_)
                    refine lv_goto (tgt := 249) hx hb dX1_passOverTones_246 (by decide) ?_
                    refine lv_iload_n hx hb dX1_passOverTones_249 rfl (lv_at hl 8 rfl) ?_
                    refine lv_iconst (v := zI 2) hx hb dX1_passOverTones_250 rfl ?_
                    refine z_icmp_ne (tgt := 273) hx hb (by omega) (by omega) dX1_passOverTones_251 (by decide) (fun c191 => ?_) (fun c191 => False.elim (by omega))
                    refine lv_iload hx hb dX1_passOverTones_273 (lv_at hl 2 rfl) ?_
                    refine lv_iload hx hb dX1_passOverTones_275 (lv_at hl 0 rfl) ?_
                    obtain ⟨z192, bz192, x0z192, ez192⟩ := add_ex v9_65 z189
                    refine lv_iadd hx hb dX1_passOverTones_277 ?_
                    refine r_val ez192 ?_
                    refine lv_istore (lv' := [(9, .int (zI z192)), (11, .int (zI z189)), (10, .int (zI v10_65)), (8, .int (zI v8_65)), (7, .int (zI z8)), (6, .int (zI z7)), (5, .int (zI o3)), (4, .int (zI z2)), (3, .int (zI z1)), (0, .ref (B + 23)), (1, .ref (B + u1)), (2, .ref (B + a))]) hx hb dX1_passOverTones_278 hl (by decide) rfl (fun ls hl => ?_)
                    refine lv_iload hx hb dX1_passOverTones_280 (lv_at hl 3 rfl) ?_
                    refine lv_iload hx hb dX1_passOverTones_282 (lv_at hl 5 rfl) ?_
                    refine z_if_eq (tgt := 291) hx hb (by omega) dX1_passOverTones_284 (by decide) (fun c193 => False.elim (by omega)) (fun c193 => ?_)
                    refine lv_iconst (v := zI (-1)) hx hb dX1_passOverTones_287 rfl ?_
                    refine lv_goto (tgt := 306) hx hb dX1_passOverTones_288 (by decide) ?_
                    refine z_iadd (z := (v8_65 - 1)) hx hb dX1_passOverTones_306 (by omega) ?_
                    refine lv_istore (lv' := [(8, .int (zI (v8_65 - 1))), (9, .int (zI z192)), (11, .int (zI z189)), (10, .int (zI v10_65)), (7, .int (zI z8)), (6, .int (zI z7)), (5, .int (zI o3)), (4, .int (zI z2)), (3, .int (zI z1)), (0, .ref (B + 23)), (1, .ref (B + u1)), (2, .ref (B + a))]) hx hb dX1_passOverTones_307 hl (by decide) rfl (fun ls hl => ?_)
                    refine z_iinc (v := (v10_65 + 1)) (lv' := [(10, .int (zI (v10_65 + 1))), (8, .int (zI (v8_65 - 1))), (9, .int (zI z192)), (11, .int (zI z189)), (7, .int (zI z8)), (6, .int (zI z7)), (5, .int (zI o3)), (4, .int (zI z2)), (3, .int (zI z1)), (0, .ref (B + 23)), (1, .ref (B + u1)), (2, .ref (B + a))]) hx hb dX1_passOverTones_309 hl (k := 3) rfl (by omega) (by decide) rfl (fun ls hl => ?_)
                    refine lv_goto (tgt := 65) hx hb dX1_passOverTones_312 (by decide) ?_
                    exact ih65 (v10_65 + 1) z192 (v8_65 - 1) N188 (by omega) (by omega) (by omega)    hIN188 hGN188 (by omega) _ _ _ w (lv_sub hl [0, 2, 1, 4, 5, 6, 7, 8, 9, 10, 11] rfl)
                  · refine lv_tableOut (tgt := 249) hx hb dX1_passOverTones_108 (by rw [zI_toInt (by omega)]; omega) (by decide) ?_
                    refine lv_iload_n hx hb dX1_passOverTones_249 rfl (lv_at hl 8 rfl) ?_
                    refine lv_iconst (v := zI 2) hx hb dX1_passOverTones_250 rfl ?_
                    refine z_icmp_ne (tgt := 273) hx hb (by omega) (by omega) dX1_passOverTones_251 (by decide) (fun c194 => ?_) (fun c194 => ?_)
                    · refine lv_iload hx hb dX1_passOverTones_273 (lv_at hl 2 rfl) ?_
                      refine lv_iload hx hb dX1_passOverTones_275 (lv_at hl 0 rfl) ?_
                      refine z_iadd (z := v9_65) hx hb dX1_passOverTones_277 (by omega) ?_
                      refine lv_istore (lv' := [(9, .int (zI v9_65)), (11, .int (zI 0)), (10, .int (zI v10_65)), (8, .int (zI v8_65)), (7, .int (zI z8)), (6, .int (zI z7)), (5, .int (zI o3)), (4, .int (zI z2)), (3, .int (zI z1)), (0, .ref (B + 23)), (1, .ref (B + u1)), (2, .ref (B + a))]) hx hb dX1_passOverTones_278 hl (by decide) rfl (fun ls hl => ?_)
                      refine lv_iload hx hb dX1_passOverTones_280 (lv_at hl 3 rfl) ?_
                      refine lv_iload hx hb dX1_passOverTones_282 (lv_at hl 5 rfl) ?_
                      refine z_if_eq (tgt := 291) hx hb (by omega) dX1_passOverTones_284 (by decide) (fun c195 => False.elim (by omega)) (fun c195 => ?_)
                      refine lv_iconst (v := zI (-1)) hx hb dX1_passOverTones_287 rfl ?_
                      refine lv_goto (tgt := 306) hx hb dX1_passOverTones_288 (by decide) ?_
                      refine z_iadd (z := (v8_65 - 1)) hx hb dX1_passOverTones_306 (by omega) ?_
                      refine lv_istore (lv' := [(8, .int (zI (v8_65 - 1))), (9, .int (zI v9_65)), (11, .int (zI 0)), (10, .int (zI v10_65)), (7, .int (zI z8)), (6, .int (zI z7)), (5, .int (zI o3)), (4, .int (zI z2)), (3, .int (zI z1)), (0, .ref (B + 23)), (1, .ref (B + u1)), (2, .ref (B + a))]) hx hb dX1_passOverTones_307 hl (by decide) rfl (fun ls hl => ?_)
                      refine z_iinc (v := (v10_65 + 1)) (lv' := [(10, .int (zI (v10_65 + 1))), (8, .int (zI (v8_65 - 1))), (9, .int (zI v9_65)), (11, .int (zI 0)), (7, .int (zI z8)), (6, .int (zI z7)), (5, .int (zI o3)), (4, .int (zI z2)), (3, .int (zI z1)), (0, .ref (B + 23)), (1, .ref (B + u1)), (2, .ref (B + a))]) hx hb dX1_passOverTones_309 hl (k := 3) rfl (by omega) (by decide) rfl (fun ls hl => ?_)
                      refine lv_goto (tgt := 65) hx hb dX1_passOverTones_312 (by decide) ?_
                      exact ih65 (v10_65 + 1) v9_65 (v8_65 - 1) NL65 (by omega) (by omega) (by omega)    hIL65 hFL65 (by omega) _ _ _ w (lv_sub hl [0, 2, 1, 4, 5, 6, 7, 8, 9, 10, 11] rfl)
                    · refine lv_iload hx hb dX1_passOverTones_254 (lv_at hl 0 rfl) ?_
                      refine z_if_le (tgt := 273) hx hb (by omega) dX1_passOverTones_256 (by decide) (fun c196 => ?_) (fun c196 => False.elim (by omega))
                      refine lv_iload hx hb dX1_passOverTones_273 (lv_at hl 2 rfl) ?_
                      refine lv_iload hx hb dX1_passOverTones_275 (lv_at hl 0 rfl) ?_
                      refine z_iadd (z := v9_65) hx hb dX1_passOverTones_277 (by omega) ?_
                      refine lv_istore (lv' := [(9, .int (zI v9_65)), (11, .int (zI 0)), (10, .int (zI v10_65)), (8, .int (zI v8_65)), (7, .int (zI z8)), (6, .int (zI z7)), (5, .int (zI o3)), (4, .int (zI z2)), (3, .int (zI z1)), (0, .ref (B + 23)), (1, .ref (B + u1)), (2, .ref (B + a))]) hx hb dX1_passOverTones_278 hl (by decide) rfl (fun ls hl => ?_)
                      refine lv_iload hx hb dX1_passOverTones_280 (lv_at hl 3 rfl) ?_
                      refine lv_iload hx hb dX1_passOverTones_282 (lv_at hl 5 rfl) ?_
                      refine z_if_eq (tgt := 291) hx hb (by omega) dX1_passOverTones_284 (by decide) (fun c197 => False.elim (by omega)) (fun c197 => ?_)
                      refine lv_iconst (v := zI (-1)) hx hb dX1_passOverTones_287 rfl ?_
                      refine lv_goto (tgt := 306) hx hb dX1_passOverTones_288 (by decide) ?_
                      refine z_iadd (z := (v8_65 - 1)) hx hb dX1_passOverTones_306 (by omega) ?_
                      refine lv_istore (lv' := [(8, .int (zI (v8_65 - 1))), (9, .int (zI v9_65)), (11, .int (zI 0)), (10, .int (zI v10_65)), (7, .int (zI z8)), (6, .int (zI z7)), (5, .int (zI o3)), (4, .int (zI z2)), (3, .int (zI z1)), (0, .ref (B + 23)), (1, .ref (B + u1)), (2, .ref (B + a))]) hx hb dX1_passOverTones_307 hl (by decide) rfl (fun ls hl => ?_)
                      refine z_iinc (v := (v10_65 + 1)) (lv' := [(10, .int (zI (v10_65 + 1))), (8, .int (zI (v8_65 - 1))), (9, .int (zI v9_65)), (11, .int (zI 0)), (7, .int (zI z8)), (6, .int (zI z7)), (5, .int (zI o3)), (4, .int (zI z2)), (3, .int (zI z1)), (0, .ref (B + 23)), (1, .ref (B + u1)), (2, .ref (B + a))]) hx hb dX1_passOverTones_309 hl (k := 3) rfl (by omega) (by decide) rfl (fun ls hl => ?_)
                      refine lv_goto (tgt := 65) hx hb dX1_passOverTones_312 (by decide) ?_
                      exact ih65 (v10_65 + 1) v9_65 (v8_65 - 1) NL65 (by omega) (by omega) (by omega)    hIL65 hFL65 (by omega) _ _ _ w (lv_sub hl [0, 2, 1, 4, 5, 6, 7, 8, 9, 10, 11] rfl)
      exact lp65 _ 0 0 (z8 - 1) M (by omega) (by omega) (by omega) hI hF (Nat.lt_succ_self _) _ _ _ w (lv_sub hl [0, 1, 2, 3, 4, 5, 6, 7, 8, 9, 10] rfl)
  refine lv_iconst (v := zI 1) hx hb dX1_passOverTones_21 rfl ?_
  refine z_icmp_ne (tgt := 29) hx hb (by omega) (by omega) dX1_passOverTones_22 (by decide) (fun c4 => ?_) (fun c4 => ?_)
  · refine lv_iconst (v := zI 0) hx hb dX1_passOverTones_29 rfl ?_
    refine lv_istore (lv' := [(5, .int (zI 0)), (4, .int (zI z2)), (3, .int (zI z1)), (0, .ref (B + 23)), (1, .ref (B + u1)), (2, .ref (B + a))]) hx hb dX1_passOverTones_30 hl (by decide) rfl (fun ls hl => ?_)
    exact j32 0 (by omega) _ _ _ w hl
  · refine lv_iconst (v := zI 1) hx hb dX1_passOverTones_25 rfl ?_
    refine lv_goto (tgt := 30) hx hb dX1_passOverTones_26 (by decide) ?_
    refine lv_istore (lv' := [(5, .int (zI 1)), (4, .int (zI z2)), (3, .int (zI z1)), (0, .ref (B + 23)), (1, .ref (B + u1)), (2, .ref (B + a))]) hx hb dX1_passOverTones_30 hl (by decide) rfl (fun ls hl => ?_)
    exact j32 1 (by omega) _ _ _ w hl
theorem dX1_perform_0 : decode cX1_perform 0 = .ok (.iconst 0, 1) := wdX1_perform_0
theorem dX1_perform_1 : decode cX1_perform 1 = .ok (.istore_n 3, 1) := wdX1_perform_1
theorem dX1_perform_2 : decode cX1_perform 2 = .ok (.iconst 1, 1) := wdX1_perform_2
theorem dX1_perform_3 : decode cX1_perform 3 = .ok (.istore 4, 2) := wdX1_perform_3
theorem dX1_perform_5 : decode cX1_perform 5 = .ok (.aload_n 0, 1) := wdX1_perform_5
theorem dX1_perform_6 : decode cX1_perform 6 = .ok (.iconst 0, 1) := wdX1_perform_6
theorem dX1_perform_7 : decode cX1_perform 7 = .ok (.putfield 9, 3) := wdX1_perform_7
theorem tb_163 : Cond.fieldLink "ToneLines$Doer" 9 "ToneLines$Doer" "passes" "I" ∈ TB := wtb_89
theorem dX1_perform_10 : decode cX1_perform 10 = .ok (.iload 4, 2) := wdX1_perform_10
theorem dX1_perform_12 : decode cX1_perform 12 = .ok (.ifCond .eq 133, 3) := wdX1_perform_12
theorem dX1_perform_15 : decode cX1_perform 15 = .ok (.aload_n 0, 1) := wdX1_perform_15
theorem dX1_perform_16 : decode cX1_perform 16 = .ok (.getfield 9, 3) := wdX1_perform_16
theorem dX1_perform_19 : decode cX1_perform 19 = .ok (.bipush 20, 2) := wdX1_perform_19
theorem dX1_perform_21 : decode cX1_perform 21 = .ok (.if_icmp .ge 124, 3) := wdX1_perform_21
theorem dX1_perform_24 : decode cX1_perform 24 = .ok (.aload_n 1, 1) := wdX1_perform_24
theorem dX1_perform_25 : decode cX1_perform 25 = .ok (.getfield 15, 3) := wdX1_perform_25
theorem dX1_perform_28 : decode cX1_perform 28 = .ok (.iconst 0, 1) := wdX1_perform_28
theorem dX1_perform_29 : decode cX1_perform 29 = .ok (.iaload, 1) := wdX1_perform_29
theorem dX1_perform_30 : decode cX1_perform 30 = .ok (.lookupswitch 67 #[(0, 34), (8, 45), (9, 56)], 34) := wdX1_perform_30
theorem dX1_perform_64 : decode cX1_perform 64 = .ok (.aload_n 0, 1) := wdX1_perform_64
theorem dX1_perform_65 : decode cX1_perform 65 = .ok (.aload_n 1, 1) := wdX1_perform_65
theorem dX1_perform_66 : decode cX1_perform 66 = .ok (.aload_n 2, 1) := wdX1_perform_66
theorem dX1_perform_67 : decode cX1_perform 67 = .ok (.invokevirtual 21, 3) := wdX1_perform_67
theorem tk_X1_passOfLink : Cond.code yX1_passOfLink cX1_passOfLink 8 (some .int) ∈ TB := wtk_X1_passOfLink
theorem gc_X1_passOfLink : GoodIn TB (cw yX1_passOfLink cX1_passOfLink 8 (some .int)) := goodIn_c2 tk_X1_passOfLink
theorem tb_164 : Cond.methodLink "ToneLines$Doer" 21 yX1_passOfLink ∈ TB := wtb_90
theorem tb_165 : Cond.instanceMethod yX1_passOfLink ∈ TB := wtb_91
theorem tb_166 : Cond.selects "ToneLines$Doer" yX1_passOfLink yX1_passOfLink ∈ TB := wtb_92
theorem gv_X1_21 : GoodIn TB (wsV RX1 21 RX1 yX1_passOfLink (cw yX1_passOfLink cX1_passOfLink 8 (some .int))) := goodIn_4 tb_164 tb_165 tb_166 tb_76 gc_X1_passOfLink
theorem hv_X1_passOfLink : yX1_passOfLink.cls = RX1 ∧ yX1_passOfLink.cls ≠ "java/lang/invoke/MethodHandle" ∧ yX1_passOfLink.cls ≠ "java/lang/invoke/VarHandle" ∧ (parseMethodDescriptor yX1_passOfLink.desc).map (fun d => d.parameters.length) = some 2 := whv_X1_passOfLink
theorem dX1_perform_70 : decode cX1_perform 70 = .ok (.istore 5, 2) := wdX1_perform_70
theorem dX1_perform_72 : decode cX1_perform 72 = .ok (.goto 33, 3) := wdX1_perform_72
theorem dX1_perform_105 : decode cX1_perform 105 = .ok (.iload_n 3, 1) := wdX1_perform_105
theorem dX1_perform_106 : decode cX1_perform 106 = .ok (.iload 5, 2) := wdX1_perform_106
theorem dX1_perform_108 : decode cX1_perform 108 = .ok (.iadd, 1) := wdX1_perform_108
theorem dX1_perform_109 : decode cX1_perform 109 = .ok (.istore_n 3, 1) := wdX1_perform_109
theorem dX1_perform_110 : decode cX1_perform 110 = .ok (.iload 5, 2) := wdX1_perform_110
theorem dX1_perform_112 : decode cX1_perform 112 = .ok (.ifCond .le 17, 3) := wdX1_perform_112
theorem dX1_perform_129 : decode cX1_perform 129 = .ok (.iconst 0, 1) := wdX1_perform_129
theorem dX1_perform_130 : decode cX1_perform 130 = .ok (.istore 4, 2) := wdX1_perform_130
theorem dX1_perform_132 : decode cX1_perform 132 = .ok (.aload_n 0, 1) := wdX1_perform_132
theorem dX1_perform_133 : decode cX1_perform 133 = .ok (.dup, 1) := wdX1_perform_133
theorem dX1_perform_134 : decode cX1_perform 134 = .ok (.getfield 9, 3) := wdX1_perform_134
theorem dX1_perform_137 : decode cX1_perform 137 = .ok (.iconst 1, 1) := wdX1_perform_137
theorem dX1_perform_138 : decode cX1_perform 138 = .ok (.iadd, 1) := wdX1_perform_138
theorem dX1_perform_139 : decode cX1_perform 139 = .ok (.putfield 9, 3) := wdX1_perform_139
theorem dX1_perform_142 : decode cX1_perform 142 = .ok (.goto (-132), 3) := wdX1_perform_142
theorem dX1_perform_115 : decode cX1_perform 115 = .ok (.aload_n 1, 1) := wdX1_perform_115
theorem dX1_perform_116 : decode cX1_perform 116 = .ok (.getfield 15, 3) := wdX1_perform_116
theorem dX1_perform_119 : decode cX1_perform 119 = .ok (.iconst 1, 1) := wdX1_perform_119
theorem dX1_perform_120 : decode cX1_perform 120 = .ok (.iaload, 1) := wdX1_perform_120
theorem dX1_perform_121 : decode cX1_perform 121 = .ok (.iconst 1, 1) := wdX1_perform_121
theorem dX1_perform_122 : decode cX1_perform 122 = .ok (.if_icmp .ne 7, 3) := wdX1_perform_122
theorem dX1_perform_125 : decode cX1_perform 125 = .ok (.iconst 1, 1) := wdX1_perform_125
theorem dX1_perform_126 : decode cX1_perform 126 = .ok (.goto 4, 3) := wdX1_perform_126
theorem dX1_perform_75 : decode cX1_perform 75 = .ok (.aload_n 0, 1) := wdX1_perform_75
theorem dX1_perform_76 : decode cX1_perform 76 = .ok (.aload_n 1, 1) := wdX1_perform_76
theorem dX1_perform_77 : decode cX1_perform 77 = .ok (.aload_n 2, 1) := wdX1_perform_77
theorem dX1_perform_78 : decode cX1_perform 78 = .ok (.invokevirtual 25, 3) := wdX1_perform_78
theorem tk_X1_passOfFlat : Cond.code yX1_passOfFlat cX1_passOfFlat 10 (some .int) ∈ TB := wtk_X1_passOfFlat
theorem gc_X1_passOfFlat : GoodIn TB (cw yX1_passOfFlat cX1_passOfFlat 10 (some .int)) := goodIn_c2 tk_X1_passOfFlat
theorem tb_167 : Cond.methodLink "ToneLines$Doer" 25 yX1_passOfFlat ∈ TB := wtb_93
theorem tb_168 : Cond.instanceMethod yX1_passOfFlat ∈ TB := wtb_94
theorem tb_169 : Cond.selects "ToneLines$Doer" yX1_passOfFlat yX1_passOfFlat ∈ TB := wtb_95
theorem gv_X1_25 : GoodIn TB (wsV RX1 25 RX1 yX1_passOfFlat (cw yX1_passOfFlat cX1_passOfFlat 10 (some .int))) := goodIn_4 tb_167 tb_168 tb_169 tb_76 gc_X1_passOfFlat
theorem hv_X1_passOfFlat : yX1_passOfFlat.cls = RX1 ∧ yX1_passOfFlat.cls ≠ "java/lang/invoke/MethodHandle" ∧ yX1_passOfFlat.cls ≠ "java/lang/invoke/VarHandle" ∧ (parseMethodDescriptor yX1_passOfFlat.desc).map (fun d => d.parameters.length) = some 2 := whv_X1_passOfFlat
theorem dX1_perform_81 : decode cX1_perform 81 = .ok (.istore 5, 2) := wdX1_perform_81
theorem dX1_perform_83 : decode cX1_perform 83 = .ok (.goto 22, 3) := wdX1_perform_83
theorem dX1_perform_86 : decode cX1_perform 86 = .ok (.aload_n 0, 1) := wdX1_perform_86
theorem dX1_perform_87 : decode cX1_perform 87 = .ok (.aload_n 1, 1) := wdX1_perform_87
theorem dX1_perform_88 : decode cX1_perform 88 = .ok (.aload_n 2, 1) := wdX1_perform_88
theorem dX1_perform_89 : decode cX1_perform 89 = .ok (.invokevirtual 28, 3) := wdX1_perform_89
theorem tk_X1_passOfFill : Cond.code yX1_passOfFill cX1_passOfFill 6 (some .int) ∈ TB := wtk_X1_passOfFill
theorem gc_X1_passOfFill : GoodIn TB (cw yX1_passOfFill cX1_passOfFill 6 (some .int)) := goodIn_c2 tk_X1_passOfFill
theorem tb_170 : Cond.methodLink "ToneLines$Doer" 28 yX1_passOfFill ∈ TB := wtb_96
theorem tb_171 : Cond.instanceMethod yX1_passOfFill ∈ TB := wtb_97
theorem tb_172 : Cond.selects "ToneLines$Doer" yX1_passOfFill yX1_passOfFill ∈ TB := wtb_98
theorem gv_X1_28 : GoodIn TB (wsV RX1 28 RX1 yX1_passOfFill (cw yX1_passOfFill cX1_passOfFill 6 (some .int))) := goodIn_4 tb_170 tb_171 tb_172 tb_76 gc_X1_passOfFill
theorem hv_X1_passOfFill : yX1_passOfFill.cls = RX1 ∧ yX1_passOfFill.cls ≠ "java/lang/invoke/MethodHandle" ∧ yX1_passOfFill.cls ≠ "java/lang/invoke/VarHandle" ∧ (parseMethodDescriptor yX1_passOfFill.desc).map (fun d => d.parameters.length) = some 2 := whv_X1_passOfFill
theorem dX1_perform_92 : decode cX1_perform 92 = .ok (.istore 5, 2) := wdX1_perform_92
theorem dX1_perform_94 : decode cX1_perform 94 = .ok (.goto 11, 3) := wdX1_perform_94
theorem dX1_perform_97 : decode cX1_perform 97 = .ok (.aload_n 0, 1) := wdX1_perform_97
theorem dX1_perform_98 : decode cX1_perform 98 = .ok (.aload_n 1, 1) := wdX1_perform_98
theorem dX1_perform_99 : decode cX1_perform 99 = .ok (.aload_n 2, 1) := wdX1_perform_99
theorem dX1_perform_100 : decode cX1_perform 100 = .ok (.invokevirtual 31, 3) := wdX1_perform_100
theorem tk_X1_passOverTones : Cond.code yX1_passOverTones cX1_passOverTones 12 (some .int) ∈ TB := wtk_X1_passOverTones
theorem gc_X1_passOverTones : GoodIn TB (cw yX1_passOverTones cX1_passOverTones 12 (some .int)) := goodIn_c2 tk_X1_passOverTones
theorem tb_173 : Cond.methodLink "ToneLines$Doer" 31 yX1_passOverTones ∈ TB := wtb_99
theorem tb_174 : Cond.instanceMethod yX1_passOverTones ∈ TB := wtb_100
theorem tb_175 : Cond.selects "ToneLines$Doer" yX1_passOverTones yX1_passOverTones ∈ TB := wtb_101
theorem gv_X1_31 : GoodIn TB (wsV RX1 31 RX1 yX1_passOverTones (cw yX1_passOverTones cX1_passOverTones 12 (some .int))) := goodIn_4 tb_173 tb_174 tb_175 tb_76 gc_X1_passOverTones
theorem hv_X1_passOverTones : yX1_passOverTones.cls = RX1 ∧ yX1_passOverTones.cls ≠ "java/lang/invoke/MethodHandle" ∧ yX1_passOverTones.cls ≠ "java/lang/invoke/VarHandle" ∧ (parseMethodDescriptor yX1_passOverTones.desc).map (fun d => d.parameters.length) = some 2 := whv_X1_passOverTones
theorem dX1_perform_103 : decode cX1_perform 103 = .ok (.istore 5, 2) := wdX1_perform_103
theorem dX1_perform_145 : decode cX1_perform 145 = .ok (.iload_n 3, 1) := wdX1_perform_145
theorem dX1_perform_146 : decode cX1_perform 146 = .ok (.ireturn, 1) := wdX1_perform_146
set_option maxHeartbeats 4000000 in
set_option maxRecDepth 4000 in
theorem q_X1_perform {l : Launch} {D : va_G} {B : Nat} {cy : Nat → ClassId} {M : Mem} {u1 : Nat} (hku1 : kd u1 = (4, 0, 0)) {a : Nat} (hka : kd a = (9, 0, 0)) (hI : Inv M) : Ci l D B cy yX1_perform cX1_perform 6 (some .int) 4 108 [.ref (B + 23), .ref (B + u1), .ref (B + a)] M (fun r M1 => ∃ z : Int, r = zI z ∧ ((-2147483648) ≤ z ∧ z ≤ 2147483647) ∧ Inv M1 ∧ Fr (fun b9 k9 => (b9 = 23 ∧ k9 = 0) ∨ b9 = (a + 1) ∨ b9 = (a + 2) ∨ b9 = a) M1 M) := by
  refine s_anyQ (by decide) (Nat.le_of_ble_eq_true rfl) ?_
  intro p e s m args below meth c ls Q F hr hlocks hQ w hl
  have F : CallFix p m c cX1_perform 6 s args TB RX1 := F
  have hx := F.1
  have hb := F.2.1
  have hl : lv_has ls 6 [(0, .ref (B + 23)), (1, .ref (B + u1)), (2, .ref (B + a))] := hl
  have hF : Fr (fun b9 k9 => (b9 = 23 ∧ k9 = 0) ∨ b9 = (a + 1) ∨ b9 = (a + 2) ∨ b9 = a) M M := Fr.rf
  refine lv_iconst (v := zI 0) hx hb dX1_perform_0 rfl ?_
  refine lv_istore_n (lv' := [(3, .int (zI 0)), (0, .ref (B + 23)), (1, .ref (B + u1)), (2, .ref (B + a))]) hx hb dX1_perform_1 rfl hl (by decide) rfl (fun ls hl => ?_)
  refine lv_iconst (v := zI 1) hx hb dX1_perform_2 rfl ?_
  refine lv_istore (lv' := [(4, .int (zI 1)), (3, .int (zI 0)), (0, .ref (B + 23)), (1, .ref (B + u1)), (2, .ref (B + a))]) hx hb dX1_perform_3 hl (by decide) rfl (fun ls hl => ?_)
  refine lv_aload_n hx hb dX1_perform_5 rfl (lv_at hl 2 rfl) ?_
  refine lv_iconst (v := zI 0) hx hb dX1_perform_6 rfl ?_
  refine u_1_0 F w (a := 23) rfl tb_163 dX1_perform_7 (fun H locs w => ?_)
  have lp10 : ∀ (f : Nat) (v4_10 : Int) (v3_10 : Int) (g23_0_10 : Int) (NL10 : Mem), (0 ≤ v4_10 ∧ v4_10 ≤ 1) → ((-2147483648) ≤ v3_10 ∧ v3_10 ≤ 2147483647) → (0 ≤ g23_0_10 ∧ g23_0_10 ≤ 20) → NL10.1 23 0 = zI g23_0_10 → Inv NL10 → Fr (fun b9 k9 => (b9 = 23 ∧ k9 = 0) ∨ b9 = (a + 1) ∨ b9 = (a + 2) ∨ b9 = a) NL10 M → (Int.toNat (20 - g23_0_10) < f) → ∀ (H : Heap) (locs : List Loc) (ls : Array Slot), Wd D B cy s s.heap NL10 H locs → lv_has ls 6 [(4, .int (zI v4_10)), (3, .int (zI v3_10)), (0, .ref (B + 23)), (1, .ref (B + u1)), (2, .ref (B + a))] → W p l e (rmm 4 108) s m args below meth c H locs 0 0 Q (F0 m 10 ls []) := by
    intro f
    induction f with
    | zero => intros; omega
    | succ f ih10 =>
      intro v4_10 v3_10 g23_0_10 NL10 iv4_10 iv3_10 ig23_0_10 eg23_0_10 hIL10 hFL10 hf10 H locs ls w hl
      refine lv_iload hx hb dX1_perform_10 (lv_at hl 0 rfl) ?_
      refine z_if_eq (tgt := 145) hx hb (by omega) dX1_perform_12 (by decide) (fun c1 => ?_) (fun c1 => ?_)
      · refine lv_iload_n hx hb dX1_perform_145 rfl (lv_at hl 1 rfl) ?_
        rw [hQ]
        exact e_i F w hr hlocks ⟨_, rfl, (by omega), hIL10, hFL10⟩ dX1_perform_146
      · refine lv_aload_n hx hb dX1_perform_15 rfl (lv_at hl 2 rfl) ?_
        refine f_1_0 F w (a := 23) rfl tb_163 dX1_perform_16 ?_
        refine r_val (v := zI g23_0_10) (eg23_0_10) ?_
        refine lv_bipush (v := zI 20) hx hb dX1_perform_19 (by decide) ?_
        refine z_icmp_ge (tgt := 145) hx hb (by omega) (by omega) dX1_perform_21 (by decide) (fun c2 => ?_) (fun c2 => ?_)
        · refine lv_iload_n hx hb dX1_perform_145 rfl (lv_at hl 1 rfl) ?_
          rw [hQ]
          exact e_i F w hr hlocks ⟨_, rfl, (by omega), hIL10, hFL10⟩ dX1_perform_146
        · refine lv_aload_n hx hb dX1_perform_24 rfl (lv_at hl 3 rfl) ?_
          refine f_4_0 F w (a := u1) hku1 tb_79 dX1_perform_25 ?_
          refine lv_iconst (v := zI 0) hx hb dX1_perform_28 rfl ?_
          refine g_iald F w (a := (u1 + 1)) (iv_u hku1).2.2 (j := 0) ⟨by decide, by decide⟩ (by omega) dX1_perform_29 ?_
          obtain ⟨z3, bz3, ez3⟩ := Inv.ld (k := 0) hIL10 (iv_up hku1 _) (by have := lt_u hku1; omega)
          refine r_val ez3 ?_
          rcases (show z3 = 0 ∨ z3 = 8 ∨ z3 = 9 ∨ (z3 ≠ 0 ∧ z3 ≠ 8 ∧ z3 ≠ 9) by omega) with c4 | c4 | c4 | c4
          · refine r_val (v := zI 0) (congrArg zI c4) ?_
            refine lv_lookup (tgt := 64) (off := 34) hx hb dX1_perform_30 (by decide) (by decide) (by decide) ?_
            refine lv_aload_n hx hb dX1_perform_64 rfl (lv_at hl 2 rfl) ?_
            refine lv_aload_n hx hb dX1_perform_65 rfl (lv_at hl 3 rfl) ?_
            refine lv_aload_n hx hb dX1_perform_66 rfl (lv_at hl 4 rfl) ?_
            refine k_Vi F w (As := [.ref (B + u1), .ref (B + a)]) (rest := []) (a := 23) (kd_lt (a := 23) (show kd 23 = (1, 0, 0) from rfl) (by decide)) (sh_1 rfl _ _) rfl (q_X1_passOfLink (u1 := u1) hku1 (a := a) hka  hIL10) gv_X1_21 hv_X1_passOfLink ⟨(Nat.le_of_ble_eq_true rfl), (Nat.le_of_ble_eq_true rfl)⟩ hl.1 rfl (Nat.le_of_ble_eq_true rfl) ⟨Nat.zero_le _, Nat.zero_le _⟩ dX1_perform_67 (fun r5 N6 H locs hp w => ?_)
            obtain ⟨z7, rfl, bz7, hIN6, hFN6⟩ := hp
            have hGN6 := Fr.tr hFL10 hFN6 (S := (fun b9 k9 => (b9 = 23 ∧ k9 = 0) ∨ b9 = (a + 1) ∨ b9 = (a + 2) ∨ b9 = a)) (fun b k h => by first | omega | (dsimp only at h ⊢; omega))
            have kn8 : N6.1 23 0 = zI g23_0_10 := (hFN6 23 0 (by have := w_ap hka; first | omega | (dsimp only; omega))).trans (eg23_0_10)
            refine lv_istore (lv' := [(5, .int (zI z7)), (4, .int (zI v4_10)), (3, .int (zI v3_10)), (0, .ref (B + 23)), (1, .ref (B + u1)), (2, .ref (B + a))]) hx hb dX1_perform_70 hl (by decide) rfl (fun ls hl => ?_)
            refine lv_goto (tgt := 105) hx hb dX1_perform_72 (by decide) ?_
            refine lv_iload_n hx hb dX1_perform_105 rfl (lv_at hl 2 rfl) ?_
            refine lv_iload hx hb dX1_perform_106 (lv_at hl 0 rfl) ?_
            obtain ⟨z9, bz9, x0z9, ez9⟩ := add_ex v3_10 z7
            refine lv_iadd hx hb dX1_perform_108 ?_
            refine r_val ez9 ?_
            refine lv_istore_n (lv' := [(3, .int (zI z9)), (5, .int (zI z7)), (4, .int (zI v4_10)), (0, .ref (B + 23)), (1, .ref (B + u1)), (2, .ref (B + a))]) hx hb dX1_perform_109 rfl hl (by decide) rfl (fun ls hl => ?_)
            refine lv_iload hx hb dX1_perform_110 (lv_at hl 1 rfl) ?_
            refine z_if_le (tgt := 129) hx hb (by omega) dX1_perform_112 (by decide) (fun c10 => ?_) (fun c10 => ?_)
            · refine lv_iconst (v := zI 0) hx hb dX1_perform_129 rfl ?_
              refine lv_istore (lv' := [(4, .int (zI 0)), (3, .int (zI z9)), (5, .int (zI z7)), (0, .ref (B + 23)), (1, .ref (B + u1)), (2, .ref (B + a))]) hx hb dX1_perform_130 hl (by decide) rfl (fun ls hl => ?_)
              refine lv_aload_n hx hb dX1_perform_132 rfl (lv_at hl 3 rfl) ?_
              refine lv_dup hx hb dX1_perform_133 rfl ?_
              refine f_1_0 F w (a := 23) rfl tb_163 dX1_perform_134 ?_
              refine r_val (v := zI g23_0_10) (kn8) ?_
              refine lv_iconst (v := zI 1) hx hb dX1_perform_137 rfl ?_
              refine z_iadd (z := (g23_0_10 + 1)) hx hb dX1_perform_138 (by omega) ?_
              refine u_1_0 F w (a := 23) rfl tb_163 dX1_perform_139 (fun H locs w => ?_)
              refine lv_goto (tgt := 10) hx hb dX1_perform_142 (by decide) ?_
              exact ih10 0 z9 (g23_0_10 + 1) (st N6 23 0 (zI (g23_0_10 + 1))) (by omega) (by omega) (by omega) (st_at)  (Inv.to hIN6 (a := 23) (k := 0) (x := (g23_0_10 + 1)) (show iv 23 0 = (0, 20) from rfl) (by omega)) (Fr.to hGN6 (by first | omega | (dsimp only; first | done | omega))) (by omega) _ _ _ w (lv_sub hl [0, 1, 3, 4, 5] rfl)
            · refine lv_aload_n hx hb dX1_perform_115 rfl (lv_at hl 4 rfl) ?_
              refine f_4_0 F w (a := u1) hku1 tb_79 dX1_perform_116 ?_
              refine lv_iconst (v := zI 1) hx hb dX1_perform_119 rfl ?_
              refine g_iald F w (a := (u1 + 1)) (iv_u hku1).2.2 (j := 1) ⟨by decide, by decide⟩ (by omega) dX1_perform_120 ?_
              obtain ⟨z11, bz11, ez11⟩ := Inv.ld (k := 1) hIN6 (iv_up hku1 _) (by have := lt_u hku1; omega)
              refine r_val ez11 ?_
              refine lv_iconst (v := zI 1) hx hb dX1_perform_121 rfl ?_
              refine z_icmp_ne (tgt := 129) hx hb (by omega) (by omega) dX1_perform_122 (by decide) (fun c12 => ?_) (fun c12 => ?_)
              · refine lv_iconst (v := zI 0) hx hb dX1_perform_129 rfl ?_
                refine lv_istore (lv' := [(4, .int (zI 0)), (3, .int (zI z9)), (5, .int (zI z7)), (0, .ref (B + 23)), (1, .ref (B + u1)), (2, .ref (B + a))]) hx hb dX1_perform_130 hl (by decide) rfl (fun ls hl => ?_)
                refine lv_aload_n hx hb dX1_perform_132 rfl (lv_at hl 3 rfl) ?_
                refine lv_dup hx hb dX1_perform_133 rfl ?_
                refine f_1_0 F w (a := 23) rfl tb_163 dX1_perform_134 ?_
                refine r_val (v := zI g23_0_10) (kn8) ?_
                refine lv_iconst (v := zI 1) hx hb dX1_perform_137 rfl ?_
                refine z_iadd (z := (g23_0_10 + 1)) hx hb dX1_perform_138 (by omega) ?_
                refine u_1_0 F w (a := 23) rfl tb_163 dX1_perform_139 (fun H locs w => ?_)
                refine lv_goto (tgt := 10) hx hb dX1_perform_142 (by decide) ?_
                exact ih10 0 z9 (g23_0_10 + 1) (st N6 23 0 (zI (g23_0_10 + 1))) (by omega) (by omega) (by omega) (st_at)  (Inv.to hIN6 (a := 23) (k := 0) (x := (g23_0_10 + 1)) (show iv 23 0 = (0, 20) from rfl) (by omega)) (Fr.to hGN6 (by first | omega | (dsimp only; first | done | omega))) (by omega) _ _ _ w (lv_sub hl [0, 1, 3, 4, 5] rfl)
              · refine lv_iconst (v := zI 1) hx hb dX1_perform_125 rfl ?_
                refine lv_goto (tgt := 130) hx hb dX1_perform_126 (by decide) ?_
                refine lv_istore (lv' := [(4, .int (zI 1)), (3, .int (zI z9)), (5, .int (zI z7)), (0, .ref (B + 23)), (1, .ref (B + u1)), (2, .ref (B + a))]) hx hb dX1_perform_130 hl (by decide) rfl (fun ls hl => ?_)
                refine lv_aload_n hx hb dX1_perform_132 rfl (lv_at hl 3 rfl) ?_
                refine lv_dup hx hb dX1_perform_133 rfl ?_
                refine f_1_0 F w (a := 23) rfl tb_163 dX1_perform_134 ?_
                refine r_val (v := zI g23_0_10) (kn8) ?_
                refine lv_iconst (v := zI 1) hx hb dX1_perform_137 rfl ?_
                refine z_iadd (z := (g23_0_10 + 1)) hx hb dX1_perform_138 (by omega) ?_
                refine u_1_0 F w (a := 23) rfl tb_163 dX1_perform_139 (fun H locs w => ?_)
                refine lv_goto (tgt := 10) hx hb dX1_perform_142 (by decide) ?_
                exact ih10 1 z9 (g23_0_10 + 1) (st N6 23 0 (zI (g23_0_10 + 1))) (by omega) (by omega) (by omega) (st_at)  (Inv.to hIN6 (a := 23) (k := 0) (x := (g23_0_10 + 1)) (show iv 23 0 = (0, 20) from rfl) (by omega)) (Fr.to hGN6 (by first | omega | (dsimp only; first | done | omega))) (by omega) _ _ _ w (lv_sub hl [0, 1, 3, 4, 5] rfl)
          · refine r_val (v := zI 8) (congrArg zI c4) ?_
            refine lv_lookup (tgt := 75) (off := 45) hx hb dX1_perform_30 (by decide) (by decide) (by decide) ?_
            refine lv_aload_n hx hb dX1_perform_75 rfl (lv_at hl 2 rfl) ?_
            refine lv_aload_n hx hb dX1_perform_76 rfl (lv_at hl 3 rfl) ?_
            refine lv_aload_n hx hb dX1_perform_77 rfl (lv_at hl 4 rfl) ?_
            refine k_Vi F w (As := [.ref (B + u1), .ref (B + a)]) (rest := []) (a := 23) (kd_lt (a := 23) (show kd 23 = (1, 0, 0) from rfl) (by decide)) (sh_1 rfl _ _) rfl (q_X1_passOfFlat (u1 := u1) hku1 (a := a) hka  hIL10) gv_X1_25 hv_X1_passOfFlat ⟨(Nat.le_of_ble_eq_true rfl), (Nat.le_of_ble_eq_true rfl)⟩ hl.1 rfl (Nat.le_of_ble_eq_true rfl) ⟨Nat.zero_le _, Nat.zero_le _⟩ dX1_perform_78 (fun r13 N14 H locs hp w => ?_)
            obtain ⟨z15, rfl, bz15, hIN14, hFN14⟩ := hp
            have hGN14 := Fr.tr hFL10 hFN14 (S := (fun b9 k9 => (b9 = 23 ∧ k9 = 0) ∨ b9 = (a + 1) ∨ b9 = (a + 2) ∨ b9 = a)) (fun b k h => by first | omega | (dsimp only at h ⊢; omega))
            have kn16 : N14.1 23 0 = zI g23_0_10 := (hFN14 23 0 (by have := w_ap hka; first | omega | (dsimp only; omega))).trans (eg23_0_10)
            refine lv_istore (lv' := [(5, .int (zI z15)), (4, .int (zI v4_10)), (3, .int (zI v3_10)), (0, .ref (B + 23)), (1, .ref (B + u1)), (2, .ref (B + a))]) hx hb dX1_perform_81 hl (by decide) rfl (fun ls hl => ?_)
            refine lv_goto (tgt := 105) hx hb dX1_perform_83 (by decide) ?_
            refine lv_iload_n hx hb dX1_perform_105 rfl (lv_at hl 2 rfl) ?_
            refine lv_iload hx hb dX1_perform_106 (lv_at hl 0 rfl) ?_
            obtain ⟨z17, bz17, x0z17, ez17⟩ := add_ex v3_10 z15
            refine lv_iadd hx hb dX1_perform_108 ?_
            refine r_val ez17 ?_
            refine lv_istore_n (lv' := [(3, .int (zI z17)), (5, .int (zI z15)), (4, .int (zI v4_10)), (0, .ref (B + 23)), (1, .ref (B + u1)), (2, .ref (B + a))]) hx hb dX1_perform_109 rfl hl (by decide) rfl (fun ls hl => ?_)
            refine lv_iload hx hb dX1_perform_110 (lv_at hl 1 rfl) ?_
            refine z_if_le (tgt := 129) hx hb (by omega) dX1_perform_112 (by decide) (fun c18 => ?_) (fun c18 => ?_)
            · refine lv_iconst (v := zI 0) hx hb dX1_perform_129 rfl ?_
              refine lv_istore (lv' := [(4, .int (zI 0)), (3, .int (zI z17)), (5, .int (zI z15)), (0, .ref (B + 23)), (1, .ref (B + u1)), (2, .ref (B + a))]) hx hb dX1_perform_130 hl (by decide) rfl (fun ls hl => ?_)
              refine lv_aload_n hx hb dX1_perform_132 rfl (lv_at hl 3 rfl) ?_
              refine lv_dup hx hb dX1_perform_133 rfl ?_
              refine f_1_0 F w (a := 23) rfl tb_163 dX1_perform_134 ?_
              refine r_val (v := zI g23_0_10) (kn16) ?_
              refine lv_iconst (v := zI 1) hx hb dX1_perform_137 rfl ?_
              refine z_iadd (z := (g23_0_10 + 1)) hx hb dX1_perform_138 (by omega) ?_
              refine u_1_0 F w (a := 23) rfl tb_163 dX1_perform_139 (fun H locs w => ?_)
              refine lv_goto (tgt := 10) hx hb dX1_perform_142 (by decide) ?_
              exact ih10 0 z17 (g23_0_10 + 1) (st N14 23 0 (zI (g23_0_10 + 1))) (by omega) (by omega) (by omega) (st_at)  (Inv.to hIN14 (a := 23) (k := 0) (x := (g23_0_10 + 1)) (show iv 23 0 = (0, 20) from rfl) (by omega)) (Fr.to hGN14 (by first | omega | (dsimp only; first | done | omega))) (by omega) _ _ _ w (lv_sub hl [0, 1, 3, 4, 5] rfl)
            · refine lv_aload_n hx hb dX1_perform_115 rfl (lv_at hl 4 rfl) ?_
              refine f_4_0 F w (a := u1) hku1 tb_79 dX1_perform_116 ?_
              refine lv_iconst (v := zI 1) hx hb dX1_perform_119 rfl ?_
              refine g_iald F w (a := (u1 + 1)) (iv_u hku1).2.2 (j := 1) ⟨by decide, by decide⟩ (by omega) dX1_perform_120 ?_
              obtain ⟨z19, bz19, ez19⟩ := Inv.ld (k := 1) hIN14 (iv_up hku1 _) (by have := lt_u hku1; omega)
              refine r_val ez19 ?_
              refine lv_iconst (v := zI 1) hx hb dX1_perform_121 rfl ?_
              refine z_icmp_ne (tgt := 129) hx hb (by omega) (by omega) dX1_perform_122 (by decide) (fun c20 => ?_) (fun c20 => ?_)
              · refine lv_iconst (v := zI 0) hx hb dX1_perform_129 rfl ?_
                refine lv_istore (lv' := [(4, .int (zI 0)), (3, .int (zI z17)), (5, .int (zI z15)), (0, .ref (B + 23)), (1, .ref (B + u1)), (2, .ref (B + a))]) hx hb dX1_perform_130 hl (by decide) rfl (fun ls hl => ?_)
                refine lv_aload_n hx hb dX1_perform_132 rfl (lv_at hl 3 rfl) ?_
                refine lv_dup hx hb dX1_perform_133 rfl ?_
                refine f_1_0 F w (a := 23) rfl tb_163 dX1_perform_134 ?_
                refine r_val (v := zI g23_0_10) (kn16) ?_
                refine lv_iconst (v := zI 1) hx hb dX1_perform_137 rfl ?_
                refine z_iadd (z := (g23_0_10 + 1)) hx hb dX1_perform_138 (by omega) ?_
                refine u_1_0 F w (a := 23) rfl tb_163 dX1_perform_139 (fun H locs w => ?_)
                refine lv_goto (tgt := 10) hx hb dX1_perform_142 (by decide) ?_
                exact ih10 0 z17 (g23_0_10 + 1) (st N14 23 0 (zI (g23_0_10 + 1))) (by omega) (by omega) (by omega) (st_at)  (Inv.to hIN14 (a := 23) (k := 0) (x := (g23_0_10 + 1)) (show iv 23 0 = (0, 20) from rfl) (by omega)) (Fr.to hGN14 (by first | omega | (dsimp only; first | done | omega))) (by omega) _ _ _ w (lv_sub hl [0, 1, 3, 4, 5] rfl)
              · refine lv_iconst (v := zI 1) hx hb dX1_perform_125 rfl ?_
                refine lv_goto (tgt := 130) hx hb dX1_perform_126 (by decide) ?_
                refine lv_istore (lv' := [(4, .int (zI 1)), (3, .int (zI z17)), (5, .int (zI z15)), (0, .ref (B + 23)), (1, .ref (B + u1)), (2, .ref (B + a))]) hx hb dX1_perform_130 hl (by decide) rfl (fun ls hl => ?_)
                refine lv_aload_n hx hb dX1_perform_132 rfl (lv_at hl 3 rfl) ?_
                refine lv_dup hx hb dX1_perform_133 rfl ?_
                refine f_1_0 F w (a := 23) rfl tb_163 dX1_perform_134 ?_
                refine r_val (v := zI g23_0_10) (kn16) ?_
                refine lv_iconst (v := zI 1) hx hb dX1_perform_137 rfl ?_
                refine z_iadd (z := (g23_0_10 + 1)) hx hb dX1_perform_138 (by omega) ?_
                refine u_1_0 F w (a := 23) rfl tb_163 dX1_perform_139 (fun H locs w => ?_)
                refine lv_goto (tgt := 10) hx hb dX1_perform_142 (by decide) ?_
                exact ih10 1 z17 (g23_0_10 + 1) (st N14 23 0 (zI (g23_0_10 + 1))) (by omega) (by omega) (by omega) (st_at)  (Inv.to hIN14 (a := 23) (k := 0) (x := (g23_0_10 + 1)) (show iv 23 0 = (0, 20) from rfl) (by omega)) (Fr.to hGN14 (by first | omega | (dsimp only; first | done | omega))) (by omega) _ _ _ w (lv_sub hl [0, 1, 3, 4, 5] rfl)
          · refine r_val (v := zI 9) (congrArg zI c4) ?_
            refine lv_lookup (tgt := 86) (off := 56) hx hb dX1_perform_30 (by decide) (by decide) (by decide) ?_
            refine lv_aload_n hx hb dX1_perform_86 rfl (lv_at hl 2 rfl) ?_
            refine lv_aload_n hx hb dX1_perform_87 rfl (lv_at hl 3 rfl) ?_
            refine lv_aload_n hx hb dX1_perform_88 rfl (lv_at hl 4 rfl) ?_
            refine k_Vi F w (As := [.ref (B + u1), .ref (B + a)]) (rest := []) (a := 23) (kd_lt (a := 23) (show kd 23 = (1, 0, 0) from rfl) (by decide)) (sh_1 rfl _ _) rfl (q_X1_passOfFill (u1 := u1) hku1 (a := a) hka  hIL10) gv_X1_28 hv_X1_passOfFill ⟨(Nat.le_of_ble_eq_true rfl), (Nat.le_of_ble_eq_true rfl)⟩ hl.1 rfl (Nat.le_of_ble_eq_true rfl) ⟨Nat.zero_le _, Nat.zero_le _⟩ dX1_perform_89 (fun r21 N22 H locs hp w => ?_)
            obtain ⟨z23, rfl, bz23, hIN22, hFN22⟩ := hp
            have hGN22 := Fr.tr hFL10 hFN22 (S := (fun b9 k9 => (b9 = 23 ∧ k9 = 0) ∨ b9 = (a + 1) ∨ b9 = (a + 2) ∨ b9 = a)) (fun b k h => by first | omega | (dsimp only at h ⊢; omega))
            have kn24 : N22.1 23 0 = zI g23_0_10 := (hFN22 23 0 (by have := w_ap hka; first | omega | (dsimp only; omega))).trans (eg23_0_10)
            refine lv_istore (lv' := [(5, .int (zI z23)), (4, .int (zI v4_10)), (3, .int (zI v3_10)), (0, .ref (B + 23)), (1, .ref (B + u1)), (2, .ref (B + a))]) hx hb dX1_perform_92 hl (by decide) rfl (fun ls hl => ?_)
            refine lv_goto (tgt := 105) hx hb dX1_perform_94 (by decide) ?_
            refine lv_iload_n hx hb dX1_perform_105 rfl (lv_at hl 2 rfl) ?_
            refine lv_iload hx hb dX1_perform_106 (lv_at hl 0 rfl) ?_
            obtain ⟨z25, bz25, x0z25, ez25⟩ := add_ex v3_10 z23
            refine lv_iadd hx hb dX1_perform_108 ?_
            refine r_val ez25 ?_
            refine lv_istore_n (lv' := [(3, .int (zI z25)), (5, .int (zI z23)), (4, .int (zI v4_10)), (0, .ref (B + 23)), (1, .ref (B + u1)), (2, .ref (B + a))]) hx hb dX1_perform_109 rfl hl (by decide) rfl (fun ls hl => ?_)
            refine lv_iload hx hb dX1_perform_110 (lv_at hl 1 rfl) ?_
            refine z_if_le (tgt := 129) hx hb (by omega) dX1_perform_112 (by decide) (fun c26 => ?_) (fun c26 => ?_)
            · refine lv_iconst (v := zI 0) hx hb dX1_perform_129 rfl ?_
              refine lv_istore (lv' := [(4, .int (zI 0)), (3, .int (zI z25)), (5, .int (zI z23)), (0, .ref (B + 23)), (1, .ref (B + u1)), (2, .ref (B + a))]) hx hb dX1_perform_130 hl (by decide) rfl (fun ls hl => ?_)
              refine lv_aload_n hx hb dX1_perform_132 rfl (lv_at hl 3 rfl) ?_
              refine lv_dup hx hb dX1_perform_133 rfl ?_
              refine f_1_0 F w (a := 23) rfl tb_163 dX1_perform_134 ?_
              refine r_val (v := zI g23_0_10) (kn24) ?_
              refine lv_iconst (v := zI 1) hx hb dX1_perform_137 rfl ?_
              refine z_iadd (z := (g23_0_10 + 1)) hx hb dX1_perform_138 (by omega) ?_
              refine u_1_0 F w (a := 23) rfl tb_163 dX1_perform_139 (fun H locs w => ?_)
              refine lv_goto (tgt := 10) hx hb dX1_perform_142 (by decide) ?_
              exact ih10 0 z25 (g23_0_10 + 1) (st N22 23 0 (zI (g23_0_10 + 1))) (by omega) (by omega) (by omega) (st_at)  (Inv.to hIN22 (a := 23) (k := 0) (x := (g23_0_10 + 1)) (show iv 23 0 = (0, 20) from rfl) (by omega)) (Fr.to hGN22 (by first | omega | (dsimp only; first | done | omega))) (by omega) _ _ _ w (lv_sub hl [0, 1, 3, 4, 5] rfl)
            · refine lv_aload_n hx hb dX1_perform_115 rfl (lv_at hl 4 rfl) ?_
              refine f_4_0 F w (a := u1) hku1 tb_79 dX1_perform_116 ?_
              refine lv_iconst (v := zI 1) hx hb dX1_perform_119 rfl ?_
              refine g_iald F w (a := (u1 + 1)) (iv_u hku1).2.2 (j := 1) ⟨by decide, by decide⟩ (by omega) dX1_perform_120 ?_
              obtain ⟨z27, bz27, ez27⟩ := Inv.ld (k := 1) hIN22 (iv_up hku1 _) (by have := lt_u hku1; omega)
              refine r_val ez27 ?_
              refine lv_iconst (v := zI 1) hx hb dX1_perform_121 rfl ?_
              refine z_icmp_ne (tgt := 129) hx hb (by omega) (by omega) dX1_perform_122 (by decide) (fun c28 => ?_) (fun c28 => ?_)
              · refine lv_iconst (v := zI 0) hx hb dX1_perform_129 rfl ?_
                refine lv_istore (lv' := [(4, .int (zI 0)), (3, .int (zI z25)), (5, .int (zI z23)), (0, .ref (B + 23)), (1, .ref (B + u1)), (2, .ref (B + a))]) hx hb dX1_perform_130 hl (by decide) rfl (fun ls hl => ?_)
                refine lv_aload_n hx hb dX1_perform_132 rfl (lv_at hl 3 rfl) ?_
                refine lv_dup hx hb dX1_perform_133 rfl ?_
                refine f_1_0 F w (a := 23) rfl tb_163 dX1_perform_134 ?_
                refine r_val (v := zI g23_0_10) (kn24) ?_
                refine lv_iconst (v := zI 1) hx hb dX1_perform_137 rfl ?_
                refine z_iadd (z := (g23_0_10 + 1)) hx hb dX1_perform_138 (by omega) ?_
                refine u_1_0 F w (a := 23) rfl tb_163 dX1_perform_139 (fun H locs w => ?_)
                refine lv_goto (tgt := 10) hx hb dX1_perform_142 (by decide) ?_
                exact ih10 0 z25 (g23_0_10 + 1) (st N22 23 0 (zI (g23_0_10 + 1))) (by omega) (by omega) (by omega) (st_at)  (Inv.to hIN22 (a := 23) (k := 0) (x := (g23_0_10 + 1)) (show iv 23 0 = (0, 20) from rfl) (by omega)) (Fr.to hGN22 (by first | omega | (dsimp only; first | done | omega))) (by omega) _ _ _ w (lv_sub hl [0, 1, 3, 4, 5] rfl)
              · refine lv_iconst (v := zI 1) hx hb dX1_perform_125 rfl ?_
                refine lv_goto (tgt := 130) hx hb dX1_perform_126 (by decide) ?_
                refine lv_istore (lv' := [(4, .int (zI 1)), (3, .int (zI z25)), (5, .int (zI z23)), (0, .ref (B + 23)), (1, .ref (B + u1)), (2, .ref (B + a))]) hx hb dX1_perform_130 hl (by decide) rfl (fun ls hl => ?_)
                refine lv_aload_n hx hb dX1_perform_132 rfl (lv_at hl 3 rfl) ?_
                refine lv_dup hx hb dX1_perform_133 rfl ?_
                refine f_1_0 F w (a := 23) rfl tb_163 dX1_perform_134 ?_
                refine r_val (v := zI g23_0_10) (kn24) ?_
                refine lv_iconst (v := zI 1) hx hb dX1_perform_137 rfl ?_
                refine z_iadd (z := (g23_0_10 + 1)) hx hb dX1_perform_138 (by omega) ?_
                refine u_1_0 F w (a := 23) rfl tb_163 dX1_perform_139 (fun H locs w => ?_)
                refine lv_goto (tgt := 10) hx hb dX1_perform_142 (by decide) ?_
                exact ih10 1 z25 (g23_0_10 + 1) (st N22 23 0 (zI (g23_0_10 + 1))) (by omega) (by omega) (by omega) (st_at)  (Inv.to hIN22 (a := 23) (k := 0) (x := (g23_0_10 + 1)) (show iv 23 0 = (0, 20) from rfl) (by omega)) (Fr.to hGN22 (by first | omega | (dsimp only; first | done | omega))) (by omega) _ _ _ w (lv_sub hl [0, 1, 3, 4, 5] rfl)
          · refine lv_lookup (tgt := 97) (off := 67) hx hb dX1_perform_30 (by decide) (by rw [zI_toInt (by omega)]; rw [Op.lookupswitch.offset_cons, if_neg (by omega)]; rw [Op.lookupswitch.offset_cons, if_neg (by omega)]; rw [Op.lookupswitch.offset_cons, if_neg (by omega)]; rfl) (by decide) ?_
            refine lv_aload_n hx hb dX1_perform_97 rfl (lv_at hl 2 rfl) ?_
            refine lv_aload_n hx hb dX1_perform_98 rfl (lv_at hl 3 rfl) ?_
            refine lv_aload_n hx hb dX1_perform_99 rfl (lv_at hl 4 rfl) ?_
            refine k_Vi F w (As := [.ref (B + u1), .ref (B + a)]) (rest := []) (a := 23) (kd_lt (a := 23) (show kd 23 = (1, 0, 0) from rfl) (by decide)) (sh_1 rfl _ _) rfl (q_X1_passOverTones (u1 := u1) hku1 (a := a) hka  hIL10) gv_X1_31 hv_X1_passOverTones ⟨(Nat.le_of_ble_eq_true rfl), (Nat.le_of_ble_eq_true rfl)⟩ hl.1 rfl (Nat.le_of_ble_eq_true rfl) ⟨Nat.zero_le _, Nat.zero_le _⟩ dX1_perform_100 (fun r29 N30 H locs hp w => ?_)
            obtain ⟨z31, rfl, bz31, hIN30, hFN30⟩ := hp
            have hGN30 := Fr.tr hFL10 hFN30 (S := (fun b9 k9 => (b9 = 23 ∧ k9 = 0) ∨ b9 = (a + 1) ∨ b9 = (a + 2) ∨ b9 = a)) (fun b k h => by first | omega | (dsimp only at h ⊢; omega))
            have kn32 : N30.1 23 0 = zI g23_0_10 := (hFN30 23 0 (by have := w_ap hka; first | omega | (dsimp only; omega))).trans (eg23_0_10)
            refine lv_istore (lv' := [(5, .int (zI z31)), (4, .int (zI v4_10)), (3, .int (zI v3_10)), (0, .ref (B + 23)), (1, .ref (B + u1)), (2, .ref (B + a))]) hx hb dX1_perform_103 hl (by decide) rfl (fun ls hl => ?_)
            refine lv_iload_n hx hb dX1_perform_105 rfl (lv_at hl 2 rfl) ?_
            refine lv_iload hx hb dX1_perform_106 (lv_at hl 0 rfl) ?_
            obtain ⟨z33, bz33, x0z33, ez33⟩ := add_ex v3_10 z31
            refine lv_iadd hx hb dX1_perform_108 ?_
            refine r_val ez33 ?_
            refine lv_istore_n (lv' := [(3, .int (zI z33)), (5, .int (zI z31)), (4, .int (zI v4_10)), (0, .ref (B + 23)), (1, .ref (B + u1)), (2, .ref (B + a))]) hx hb dX1_perform_109 rfl hl (by decide) rfl (fun ls hl => ?_)
            refine lv_iload hx hb dX1_perform_110 (lv_at hl 1 rfl) ?_
            refine z_if_le (tgt := 129) hx hb (by omega) dX1_perform_112 (by decide) (fun c34 => ?_) (fun c34 => ?_)
            · refine lv_iconst (v := zI 0) hx hb dX1_perform_129 rfl ?_
              refine lv_istore (lv' := [(4, .int (zI 0)), (3, .int (zI z33)), (5, .int (zI z31)), (0, .ref (B + 23)), (1, .ref (B + u1)), (2, .ref (B + a))]) hx hb dX1_perform_130 hl (by decide) rfl (fun ls hl => ?_)
              refine lv_aload_n hx hb dX1_perform_132 rfl (lv_at hl 3 rfl) ?_
              refine lv_dup hx hb dX1_perform_133 rfl ?_
              refine f_1_0 F w (a := 23) rfl tb_163 dX1_perform_134 ?_
              refine r_val (v := zI g23_0_10) (kn32) ?_
              refine lv_iconst (v := zI 1) hx hb dX1_perform_137 rfl ?_
              refine z_iadd (z := (g23_0_10 + 1)) hx hb dX1_perform_138 (by omega) ?_
              refine u_1_0 F w (a := 23) rfl tb_163 dX1_perform_139 (fun H locs w => ?_)
              refine lv_goto (tgt := 10) hx hb dX1_perform_142 (by decide) ?_
              exact ih10 0 z33 (g23_0_10 + 1) (st N30 23 0 (zI (g23_0_10 + 1))) (by omega) (by omega) (by omega) (st_at)  (Inv.to hIN30 (a := 23) (k := 0) (x := (g23_0_10 + 1)) (show iv 23 0 = (0, 20) from rfl) (by omega)) (Fr.to hGN30 (by first | omega | (dsimp only; first | done | omega))) (by omega) _ _ _ w (lv_sub hl [0, 1, 3, 4, 5] rfl)
            · refine lv_aload_n hx hb dX1_perform_115 rfl (lv_at hl 4 rfl) ?_
              refine f_4_0 F w (a := u1) hku1 tb_79 dX1_perform_116 ?_
              refine lv_iconst (v := zI 1) hx hb dX1_perform_119 rfl ?_
              refine g_iald F w (a := (u1 + 1)) (iv_u hku1).2.2 (j := 1) ⟨by decide, by decide⟩ (by omega) dX1_perform_120 ?_
              obtain ⟨z35, bz35, ez35⟩ := Inv.ld (k := 1) hIN30 (iv_up hku1 _) (by have := lt_u hku1; omega)
              refine r_val ez35 ?_
              refine lv_iconst (v := zI 1) hx hb dX1_perform_121 rfl ?_
              refine z_icmp_ne (tgt := 129) hx hb (by omega) (by omega) dX1_perform_122 (by decide) (fun c36 => ?_) (fun c36 => ?_)
              · refine lv_iconst (v := zI 0) hx hb dX1_perform_129 rfl ?_
                refine lv_istore (lv' := [(4, .int (zI 0)), (3, .int (zI z33)), (5, .int (zI z31)), (0, .ref (B + 23)), (1, .ref (B + u1)), (2, .ref (B + a))]) hx hb dX1_perform_130 hl (by decide) rfl (fun ls hl => ?_)
                refine lv_aload_n hx hb dX1_perform_132 rfl (lv_at hl 3 rfl) ?_
                refine lv_dup hx hb dX1_perform_133 rfl ?_
                refine f_1_0 F w (a := 23) rfl tb_163 dX1_perform_134 ?_
                refine r_val (v := zI g23_0_10) (kn32) ?_
                refine lv_iconst (v := zI 1) hx hb dX1_perform_137 rfl ?_
                refine z_iadd (z := (g23_0_10 + 1)) hx hb dX1_perform_138 (by omega) ?_
                refine u_1_0 F w (a := 23) rfl tb_163 dX1_perform_139 (fun H locs w => ?_)
                refine lv_goto (tgt := 10) hx hb dX1_perform_142 (by decide) ?_
                exact ih10 0 z33 (g23_0_10 + 1) (st N30 23 0 (zI (g23_0_10 + 1))) (by omega) (by omega) (by omega) (st_at)  (Inv.to hIN30 (a := 23) (k := 0) (x := (g23_0_10 + 1)) (show iv 23 0 = (0, 20) from rfl) (by omega)) (Fr.to hGN30 (by first | omega | (dsimp only; first | done | omega))) (by omega) _ _ _ w (lv_sub hl [0, 1, 3, 4, 5] rfl)
              · refine lv_iconst (v := zI 1) hx hb dX1_perform_125 rfl ?_
                refine lv_goto (tgt := 130) hx hb dX1_perform_126 (by decide) ?_
                refine lv_istore (lv' := [(4, .int (zI 1)), (3, .int (zI z33)), (5, .int (zI z31)), (0, .ref (B + 23)), (1, .ref (B + u1)), (2, .ref (B + a))]) hx hb dX1_perform_130 hl (by decide) rfl (fun ls hl => ?_)
                refine lv_aload_n hx hb dX1_perform_132 rfl (lv_at hl 3 rfl) ?_
                refine lv_dup hx hb dX1_perform_133 rfl ?_
                refine f_1_0 F w (a := 23) rfl tb_163 dX1_perform_134 ?_
                refine r_val (v := zI g23_0_10) (kn32) ?_
                refine lv_iconst (v := zI 1) hx hb dX1_perform_137 rfl ?_
                refine z_iadd (z := (g23_0_10 + 1)) hx hb dX1_perform_138 (by omega) ?_
                refine u_1_0 F w (a := 23) rfl tb_163 dX1_perform_139 (fun H locs w => ?_)
                refine lv_goto (tgt := 10) hx hb dX1_perform_142 (by decide) ?_
                exact ih10 1 z33 (g23_0_10 + 1) (st N30 23 0 (zI (g23_0_10 + 1))) (by omega) (by omega) (by omega) (st_at)  (Inv.to hIN30 (a := 23) (k := 0) (x := (g23_0_10 + 1)) (show iv 23 0 = (0, 20) from rfl) (by omega)) (Fr.to hGN30 (by first | omega | (dsimp only; first | done | omega))) (by omega) _ _ _ w (lv_sub hl [0, 1, 3, 4, 5] rfl)
  exact lp10 _ 1 0 0 (st M 23 0 (zI 0)) (by omega) (by omega) (by omega) (st_at) (Inv.to hI (a := 23) (k := 0) (x := 0) (show iv 23 0 = (0, 20) from rfl) (by omega)) (Fr.to hF (by first | omega | (dsimp only; first | done | omega))) (Nat.lt_succ_self _) _ _ _ w (lv_sub hl [0, 1, 2, 3, 4] rfl)
