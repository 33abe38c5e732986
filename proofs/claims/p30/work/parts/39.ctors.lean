theorem nf_0 : ∀ j, j < 8 → defaultValue (tyX0 j) = vp_V [.null, .null, .int 0, .null, .null, .null, .null, .int 0] j := by decide +kernel
theorem nf_1 : ∀ j, j < 1 → defaultValue (tyX1 j) = vp_V [.int 0] j := by decide +kernel
theorem nf_2 : ∀ j, j < 3 → defaultValue (tyX2 j) = vp_V [.null, .int 0, .int 0] j := by decide +kernel
theorem nf_3 : ∀ j, j < 7 → defaultValue (tyX3 j) = vp_V [.int 0, .int 0, .int 0, .null, .null, .null, .null] j := by decide +kernel
theorem nf_4 : ∀ j, j < 1 → defaultValue (tyX4 j) = vp_V [.null] j := by decide +kernel
theorem nf_5 : ∀ j, j < 6 → defaultValue (tyX5 j) = vp_V [.null, .null, .int 0, .int 0, .int 0, .int 0] j := by decide +kernel
theorem nf_6 : ∀ j, j < 4 → defaultValue (tyX6 j) = vp_V [.int 0, .null, .null, .null] j := by decide +kernel
theorem nf_7 : ∀ j, j < 2 → defaultValue (tyX7 j) = vp_V [.null, .int 0] j := by decide +kernel
theorem nf_8 : ∀ j, j < 2 → defaultValue (tyX8 j) = vp_V [.null, .int 0] j := by decide +kernel
theorem nf_9 : ∀ j, j < 6 → defaultValue (tyX9 j) = vp_V [.int 0, .int 0, .int 0, .int 0, .null, .null] j := by decide +kernel
theorem nf_10 : ∀ j, j < 2 → defaultValue (tyX10 j) = vp_V [.null, .int 0] j := by decide +kernel
theorem nf_11 : ∀ j, j < 10 → defaultValue (tyX11 j) = vp_V [.null, .null, .null, .null, .null, .null, .null, .null, .null, .null] j := by decide +kernel
theorem nf_12 : ∀ j, j < 27 → defaultValue (tyX12 j) = vp_V [.int 0, .null, .null, .int 0, .null, .int 0, .int 0, .null, .int 0, .int 0, .null, .int 0, .null, .int 0, .int 0, .int 0, .int 0, .null, .null, .null, .int 0, .null, .int 0, .null, .null, .int 0, .int 0] j := by decide +kernel
theorem dX11_init_0 : decode cX11_init 0 = .ok (.aload_n 0, 1) := dq0 kk_42 (by decide +kernel)
theorem dX11_init_1 : decode cX11_init 1 = .ok (.invokespecial 3, 3) := dqV kk_183 (by decide +kernel)
theorem tb_722 : Cond.methodLink "ToneLines" 3 ⟨"java/lang/Object", "<init>", "()V"⟩ ∈ TB := tbm (tc1 (List.mem_of_getElem? (i := 28) rfl)) rfl
theorem tb_723 : Cond.instanceMethod ⟨"java/lang/Object", "<init>", "()V"⟩ ∈ TB := tbm (tc1 (List.mem_of_getElem? (i := 29) rfl)) rfl
theorem tk_obj : Cond.code Lib.objectInit ⟨#[0xb1]⟩ 1 none ∈ TB := tbm (tc1 (List.mem_of_getElem? (i := 30) rfl)) rfl
theorem dX11_init_4 : decode cX11_init 4 = .ok (.aload_n 0, 1) := dq0 kk_42 (by decide +kernel)
theorem dX11_init_5 : decode cX11_init 5 = .ok (.new 9, 3) := dqV kk_187 (by decide +kernel)
theorem tb_725 : Cond.classLink "ToneLines" 9 "ToneLines$Tape" ∈ TB := tbm (tc1 (List.mem_of_getElem? (i := 31) rfl)) rfl
theorem tb_726 : Cond.instantiable "ToneLines$Tape" 2 ∈ TB := tbm (tc1 (List.mem_of_getElem? (i := 32) rfl)) rfl
theorem dX11_init_8 : decode cX11_init 8 = .ok (.dup, 1) := dq0 kk_89 (by decide +kernel)
theorem dX11_init_9 : decode cX11_init 9 = .ok (.invokespecial 11, 3) := dqV kk_183 (by decide +kernel)
theorem dX8_init_0 : decode cX8_init 0 = .ok (.aload_n 0, 1) := dq0 kk_42 (by decide +kernel)
theorem dX8_init_1 : decode cX8_init 1 = .ok (.invokespecial 3, 3) := dqV kk_183 (by decide +kernel)
theorem tb_727 : Cond.methodLink "ToneLines$Tape" 3 ⟨"java/lang/Object", "<init>", "()V"⟩ ∈ TB := tbm (tc1 (List.mem_of_getElem? (i := 36) rfl)) rfl
theorem dX8_init_4 : decode cX8_init 4 = .ok (.aload_n 0, 1) := dq0 kk_42 (by decide +kernel)
theorem dX8_init_5 : decode cX8_init 5 = .ok (.sipush 300, 3) := dqT kk_17 (by decide +kernel)
theorem dX8_init_8 : decode cX8_init 8 = .ok (.newarray .byte, 2) := by decide +kernel
theorem tb_728 : Cond.arrayClass FieldType.byte ∈ TB := tbm (tc1 (List.mem_of_getElem? (i := 47) rfl)) rfl
theorem dX8_init_10 : decode cX8_init 10 = .ok (.putfield 9, 3) := dqV kk_181 (by decide +kernel)
theorem dX8_init_13 : decode cX8_init 13 = .ok (.aload_n 0, 1) := dq0 kk_42 (by decide +kernel)
theorem dX8_init_14 : decode cX8_init 14 = .ok (.iconst 0, 1) := dq0 kk_3 (by decide +kernel)
theorem dX8_init_15 : decode cX8_init 15 = .ok (.putfield 15, 3) := dqV kk_181 (by decide +kernel)
theorem dX8_init_18 : decode cX8_init 18 = .ok (.return_, 1) := dq0 kk_177 (by decide +kernel)
set_option maxRecDepth 8000 in
theorem n_X8_init_1 {l : Launch} {D : va_G} {B : Nat} {cy : Nat → ClassId} {E : Nat → va_E} (h0 : E 1 = .inr (8, [.null, .int 0])) : Cn l D B cy yX8_init cX8_init 1 1 12 1 300 [.ref (B + 1)] 2 E 3 (va_up (va_up E 2 (.inl (cy 0, 300, .inl (fun _ => 0)))) 1 (.inr (8, [.ref (B + 2), .int 0]))) := by
  refine n_start (by decide) (Nat.le_of_ble_eq_true rfl) rfl ?_
  intro p e s m below meth c ls F hr hlocks hin w hl
  have F : CallFix p m c cX8_init 1 s _ TB RX8 := F
  have hx := F.1
  have hb := F.2.1
  have hl : lv_has ls 1 [(0, .ref (B + 1))] := hl
  refine lv_aload_n hx hb dX8_init_0 rfl (lv_at hl 0 rfl) ?_
  refine n_obj F hl.1 tb_727 tb_723 tk_obj dX8_init_1 (Nat.le_of_ble_eq_true rfl) (Nat.le_of_ble_eq_true rfl) ?_
  refine lv_aload_n hx hb dX8_init_4 rfl (lv_at hl 0 rfl) ?_
  refine lv_sipush (v := 300) hx hb dX8_init_5 (by decide) ?_
  refine n_newa F w (atype := .byte) (ty := .byte) (t := 0) (N := 300) (cA := cy 0) (a0 := (300, .inl (fun _ => 0))) tb_728 rfl (fun _ h => h) rfl (fun _ => rfl) (by decide) (by decide) (Nat.le_of_ble_eq_true rfl) (Nat.le_of_ble_eq_true rfl) (Nat.le_of_ble_eq_true rfl) (c1 := 1) (s1 := 300) (n1 := 3) rfl rfl rfl dX8_init_8 (fun H w => ?_)
  refine n_putF F w (a := 1) (C := RX8) (T := TX8) (N := 2) (ci := 8) (k := 0) (x := .ref (B + 2)) (ty := .array .byte) (fs1 := [.ref (B + 2), .int 0]) tyX8 tyX8_ok nmX8 (by decide) ((up_ne (by decide)).trans h0) rfl rfl inT8 (by decide) rfl tb_272 rfl hin rfl (by decide +kernel) rfl rfl (Nat.le_of_ble_eq_true rfl) dX8_init_10 (fun H locs w => ?_)
  refine lv_aload_n hx hb dX8_init_13 rfl (lv_at hl 0 rfl) ?_
  refine lv_iconst (v := 0) hx hb dX8_init_14 (by decide) ?_
  refine n_put F w (a := 1) (C := RX8) (T := TX8) (N := 2) (ci := 8) (k := 1) (x := .int 0) (ty := .int) (fs1 := [.ref (B + 2), .int 0]) tyX8 tyX8_ok nmX8 (by decide) (up_at) rfl rfl inT8 (by decide) rfl tb_271 rfl (by decide +kernel) rfl rfl (Nat.le_of_ble_eq_true rfl) dX8_init_15 (fun H locs w => ?_)
  rw [up_same (up_at)] at w
  exact n_end F w hr hlocks dX8_init_18
theorem tk_X8_init : Cond.code yX8_init cX8_init 1 none ∈ TB := tbm (tc1 (List.mem_of_getElem? (i := 35) rfl)) rfl
theorem gc_X8_init : GoodIn TB (cw yX8_init cX8_init 1 none) := goodIn_c2 tk_X8_init
theorem hs_X8_init : yX8_init.cls ≠ "java/lang/invoke/MethodHandle" ∧ yX8_init.cls ≠ "java/lang/invoke/VarHandle" ∧ (parseMethodDescriptor yX8_init.desc).map (fun d => d.parameters.length) = some 0 := by decide +kernel
theorem tb_729 : Cond.instanceMethod yX8_init ∈ TB := tbm (tc1 (List.mem_of_getElem? (i := 34) rfl)) rfl
theorem dX11_init_12 : decode cX11_init 12 = .ok (.putfield 12, 3) := dqV kk_181 (by decide +kernel)
theorem dX11_init_15 : decode cX11_init 15 = .ok (.aload_n 0, 1) := dq0 kk_42 (by decide +kernel)
theorem dX11_init_16 : decode cX11_init 16 = .ok (.new 16, 3) := dqV kk_187 (by decide +kernel)
theorem tb_730 : Cond.classLink "ToneLines" 16 "ToneLines$WordReader" ∈ TB := tbm (tc1 (List.mem_of_getElem? (i := 48) rfl)) rfl
theorem tb_731 : Cond.instantiable "ToneLines$WordReader" 2 ∈ TB := tbm (tc1 (List.mem_of_getElem? (i := 49) rfl)) rfl
theorem dX11_init_19 : decode cX11_init 19 = .ok (.dup, 1) := dq0 kk_89 (by decide +kernel)
theorem dX11_init_20 : decode cX11_init 20 = .ok (.aload_n 0, 1) := dq0 kk_42 (by decide +kernel)
theorem dX11_init_21 : decode cX11_init 21 = .ok (.getfield 12, 3) := dqV kk_180 (by decide +kernel)
theorem dX11_init_24 : decode cX11_init 24 = .ok (.invokespecial 18, 3) := dqV kk_183 (by decide +kernel)
theorem dX10_init_0 : decode cX10_init 0 = .ok (.aload_n 0, 1) := dq0 kk_42 (by decide +kernel)
theorem dX10_init_1 : decode cX10_init 1 = .ok (.invokespecial 3, 3) := dqV kk_183 (by decide +kernel)
theorem tb_732 : Cond.methodLink "ToneLines$WordReader" 3 ⟨"java/lang/Object", "<init>", "()V"⟩ ∈ TB := tbm (tc1 (List.mem_of_getElem? (i := 53) rfl)) rfl
theorem dX10_init_4 : decode cX10_init 4 = .ok (.aload_n 0, 1) := dq0 kk_42 (by decide +kernel)
theorem dX10_init_5 : decode cX10_init 5 = .ok (.iconst 0, 1) := dq0 kk_3 (by decide +kernel)
theorem dX10_init_6 : decode cX10_init 6 = .ok (.putfield 9, 3) := dqV kk_181 (by decide +kernel)
theorem dX10_init_9 : decode cX10_init 9 = .ok (.aload_n 0, 1) := dq0 kk_42 (by decide +kernel)
theorem dX10_init_10 : decode cX10_init 10 = .ok (.aload_n 1, 1) := dq0 kk_43 (by decide +kernel)
theorem dX10_init_11 : decode cX10_init 11 = .ok (.putfield 15, 3) := dqV kk_181 (by decide +kernel)
theorem dX10_init_14 : decode cX10_init 14 = .ok (.return_, 1) := dq0 kk_177 (by decide +kernel)
set_option maxRecDepth 8000 in
theorem n_X10_init_2 {l : Launch} {D : va_G} {B : Nat} {cy : Nat → ClassId} {E : Nat → va_E} (h0 : E 3 = .inr (10, [.null, .int 0])) : Cn l D B cy yX10_init cX10_init 2 1 12 0 0 [.ref (B + 3), .ref (B + 1)] 4 E 4 (va_up E 3 (.inr (10, [.ref (B + 1), .int 0]))) := by
  refine n_start (by decide) (Nat.le_of_ble_eq_true rfl) rfl ?_
  intro p e s m below meth c ls F hr hlocks hin w hl
  have F : CallFix p m c cX10_init 2 s _ TB RX10 := F
  have hx := F.1
  have hb := F.2.1
  have hl : lv_has ls 2 [(0, .ref (B + 3)), (1, .ref (B + 1))] := hl
  refine lv_aload_n hx hb dX10_init_0 rfl (lv_at hl 0 rfl) ?_
  refine n_obj F hl.1 tb_732 tb_723 tk_obj dX10_init_1 (Nat.le_of_ble_eq_true rfl) (Nat.le_of_ble_eq_true rfl) ?_
  refine lv_aload_n hx hb dX10_init_4 rfl (lv_at hl 0 rfl) ?_
  refine lv_iconst (v := 0) hx hb dX10_init_5 (by decide) ?_
  refine n_put F w (a := 3) (C := RX10) (T := TX10) (N := 2) (ci := 10) (k := 1) (x := .int 0) (ty := .int) (fs1 := [.null, .int 0]) tyX10 tyX10_ok nmX10 (by decide) (h0) rfl rfl inT10 (by decide) rfl tb_433 rfl (by decide +kernel) rfl rfl (Nat.le_of_ble_eq_true rfl) dX10_init_6 (fun H locs w => ?_)
  rw [up_same (h0)] at w
  refine lv_aload_n hx hb dX10_init_9 rfl (lv_at hl 0 rfl) ?_
  refine lv_aload_n hx hb dX10_init_10 rfl (lv_at hl 1 rfl) ?_
  refine n_putF F w (a := 3) (C := RX10) (T := TX10) (N := 2) (ci := 10) (k := 0) (x := .ref (B + 1)) (ty := .object "ToneLines$Tape") (fs1 := [.ref (B + 1), .int 0]) tyX10 tyX10_ok nmX10 (by decide) (h0) rfl rfl inT10 (by decide) rfl tb_432 rfl hin rfl (by decide +kernel) rfl rfl (Nat.le_of_ble_eq_true rfl) dX10_init_11 (fun H locs w => ?_)
  exact n_end F w hr hlocks dX10_init_14
theorem tk_X10_init : Cond.code yX10_init cX10_init 2 none ∈ TB := tbm (tc1 (List.mem_of_getElem? (i := 52) rfl)) rfl
theorem gc_X10_init : GoodIn TB (cw yX10_init cX10_init 2 none) := goodIn_c2 tk_X10_init
theorem hs_X10_init : yX10_init.cls ≠ "java/lang/invoke/MethodHandle" ∧ yX10_init.cls ≠ "java/lang/invoke/VarHandle" ∧ (parseMethodDescriptor yX10_init.desc).map (fun d => d.parameters.length) = some 1 := by decide +kernel
theorem tb_733 : Cond.methodLink "ToneLines" 18 yX10_init ∈ TB := tbm (tc1 (List.mem_of_getElem? (i := 50) rfl)) rfl
theorem tb_734 : Cond.instanceMethod yX10_init ∈ TB := tbm (tc1 (List.mem_of_getElem? (i := 51) rfl)) rfl
theorem dX11_init_27 : decode cX11_init 27 = .ok (.putfield 21, 3) := dqV kk_181 (by decide +kernel)
theorem dX11_init_30 : decode cX11_init 30 = .ok (.aload_n 0, 1) := dq0 kk_42 (by decide +kernel)
theorem dX11_init_31 : decode cX11_init 31 = .ok (.new 25, 3) := dqV kk_187 (by decide +kernel)
theorem tb_735 : Cond.classLink "ToneLines" 25 "ToneLines$RuleReader" ∈ TB := tbm (tc1 (List.mem_of_getElem? (i := 61) rfl)) rfl
theorem tb_736 : Cond.instantiable "ToneLines$RuleReader" 6 ∈ TB := tbm (tc1 (List.mem_of_getElem? (i := 62) rfl)) rfl
theorem dX11_init_34 : decode cX11_init 34 = .ok (.dup, 1) := dq0 kk_89 (by decide +kernel)
theorem dX11_init_35 : decode cX11_init 35 = .ok (.aload_n 0, 1) := dq0 kk_42 (by decide +kernel)
theorem dX11_init_36 : decode cX11_init 36 = .ok (.getfield 12, 3) := dqV kk_180 (by decide +kernel)
theorem dX11_init_39 : decode cX11_init 39 = .ok (.invokespecial 27, 3) := dqV kk_183 (by decide +kernel)
theorem dX5_init_0 : decode cX5_init 0 = .ok (.aload_n 0, 1) := dq0 kk_42 (by decide +kernel)
theorem dX5_init_1 : decode cX5_init 1 = .ok (.invokespecial 3, 3) := dqV kk_183 (by decide +kernel)
theorem tb_737 : Cond.methodLink "ToneLines$RuleReader" 3 ⟨"java/lang/Object", "<init>", "()V"⟩ ∈ TB := tbm (tc1 (List.mem_of_getElem? (i := 66) rfl)) rfl
theorem dX5_init_4 : decode cX5_init 4 = .ok (.aload_n 0, 1) := dq0 kk_42 (by decide +kernel)
theorem dX5_init_5 : decode cX5_init 5 = .ok (.bipush 8, 2) := dqS kk_16 (by decide +kernel)
theorem dX5_init_7 : decode cX5_init 7 = .ok (.anewarray 9, 3) := dqV kk_189 (by decide +kernel)
theorem tb_738 : Cond.classLink "ToneLines$RuleReader" 9 "ToneLines$Rule" ∈ TB := tbm (tc1 (List.mem_of_getElem? (i := 67) rfl)) rfl
theorem dX5_init_10 : decode cX5_init 10 = .ok (.putfield 11, 3) := dqV kk_181 (by decide +kernel)
theorem dX5_init_13 : decode cX5_init 13 = .ok (.aload_n 0, 1) := dq0 kk_42 (by decide +kernel)
theorem dX5_init_14 : decode cX5_init 14 = .ok (.iconst 0, 1) := dq0 kk_3 (by decide +kernel)
theorem dX5_init_15 : decode cX5_init 15 = .ok (.putfield 17, 3) := dqV kk_181 (by decide +kernel)
theorem dX5_init_18 : decode cX5_init 18 = .ok (.aload_n 0, 1) := dq0 kk_42 (by decide +kernel)
theorem dX5_init_19 : decode cX5_init 19 = .ok (.iconst 0, 1) := dq0 kk_3 (by decide +kernel)
theorem dX5_init_20 : decode cX5_init 20 = .ok (.putfield 21, 3) := dqV kk_181 (by decide +kernel)
theorem dX5_init_23 : decode cX5_init 23 = .ok (.aload_n 0, 1) := dq0 kk_42 (by decide +kernel)
theorem dX5_init_24 : decode cX5_init 24 = .ok (.iconst 0, 1) := dq0 kk_3 (by decide +kernel)
theorem dX5_init_25 : decode cX5_init 25 = .ok (.putfield 24, 3) := dqV kk_181 (by decide +kernel)
theorem dX5_init_28 : decode cX5_init 28 = .ok (.aload_n 0, 1) := dq0 kk_42 (by decide +kernel)
theorem dX5_init_29 : decode cX5_init 29 = .ok (.iconst 0, 1) := dq0 kk_3 (by decide +kernel)
theorem dX5_init_30 : decode cX5_init 30 = .ok (.putfield 27, 3) := dqV kk_181 (by decide +kernel)
theorem dX5_init_33 : decode cX5_init 33 = .ok (.aload_n 0, 1) := dq0 kk_42 (by decide +kernel)
theorem dX5_init_34 : decode cX5_init 34 = .ok (.aload_n 1, 1) := dq0 kk_43 (by decide +kernel)
theorem dX5_init_35 : decode cX5_init 35 = .ok (.putfield 31, 3) := dqV kk_181 (by decide +kernel)
theorem dX5_init_38 : decode cX5_init 38 = .ok (.iconst 0, 1) := dq0 kk_3 (by decide +kernel)
theorem dX5_init_39 : decode cX5_init 39 = .ok (.istore_n 2, 1) := dq0 kk_61 (by decide +kernel)
theorem dX5_init_40 : decode cX5_init 40 = .ok (.iload_n 2, 1) := dq0 kk_28 (by decide +kernel)
theorem dX5_init_41 : decode cX5_init 41 = .ok (.bipush 8, 2) := dqS kk_16 (by decide +kernel)
theorem dX5_init_43 : decode cX5_init 43 = .ok (.if_icmp .ge 22, 3) := dqT kk_162 (by decide +kernel)
theorem dX5_init_46 : decode cX5_init 46 = .ok (.aload_n 0, 1) := dq0 kk_42 (by decide +kernel)
theorem dX5_init_47 : decode cX5_init 47 = .ok (.getfield 11, 3) := dqV kk_180 (by decide +kernel)
theorem dX5_init_50 : decode cX5_init 50 = .ok (.iload_n 2, 1) := dq0 kk_28 (by decide +kernel)
theorem dX5_init_51 : decode cX5_init 51 = .ok (.new 9, 3) := dqV kk_187 (by decide +kernel)
theorem tb_739 : Cond.instantiable "ToneLines$Rule" 1 ∈ TB := tbm (tc1 (List.mem_of_getElem? (i := 69) rfl)) rfl
theorem dX5_init_54 : decode cX5_init 54 = .ok (.dup, 1) := dq0 kk_89 (by decide +kernel)
theorem dX5_init_55 : decode cX5_init 55 = .ok (.invokespecial 35, 3) := dqV kk_183 (by decide +kernel)
theorem dX4_init_0 : decode cX4_init 0 = .ok (.aload_n 0, 1) := dq0 kk_42 (by decide +kernel)
theorem dX4_init_1 : decode cX4_init 1 = .ok (.invokespecial 3, 3) := dqV kk_183 (by decide +kernel)
theorem tb_740 : Cond.methodLink "ToneLines$Rule" 3 ⟨"java/lang/Object", "<init>", "()V"⟩ ∈ TB := tbm (tc1 (List.mem_of_getElem? (i := 73) rfl)) rfl
theorem dX4_init_4 : decode cX4_init 4 = .ok (.aload_n 0, 1) := dq0 kk_42 (by decide +kernel)
theorem dX4_init_5 : decode cX4_init 5 = .ok (.bipush 8, 2) := dqS kk_16 (by decide +kernel)
theorem dX4_init_7 : decode cX4_init 7 = .ok (.newarray .int, 2) := by decide +kernel
theorem tb_741 : Cond.arrayClass FieldType.int ∈ TB := tbm (tc1 (List.mem_of_getElem? (i := 81) rfl)) rfl
theorem dX4_init_9 : decode cX4_init 9 = .ok (.putfield 9, 3) := dqV kk_181 (by decide +kernel)
theorem dX4_init_12 : decode cX4_init 12 = .ok (.return_, 1) := dq0 kk_177 (by decide +kernel)
set_option maxRecDepth 8000 in
theorem n_X4_init_3 {l : Launch} {D : va_G} {B : Nat} {cy : Nat → ClassId} {E : Nat → va_E} (h0 : E 6 = .inr (4, [.null])) : Cn l D B cy yX4_init cX4_init 1 1 12 1 8 [.ref (B + 6)] 7 E 8 (va_up (va_up E 7 (.inl (cy 2, 8, .inl (fun _ => 0)))) 6 (.inr (4, [.ref (B + 7)]))) := by
  refine n_start (by decide) (Nat.le_of_ble_eq_true rfl) rfl ?_
  intro p e s m below meth c ls F hr hlocks hin w hl
  have F : CallFix p m c cX4_init 1 s _ TB RX4 := F
  have hx := F.1
  have hb := F.2.1
  have hl : lv_has ls 1 [(0, .ref (B + 6))] := hl
  refine lv_aload_n hx hb dX4_init_0 rfl (lv_at hl 0 rfl) ?_
  refine n_obj F hl.1 tb_740 tb_723 tk_obj dX4_init_1 (Nat.le_of_ble_eq_true rfl) (Nat.le_of_ble_eq_true rfl) ?_
  refine lv_aload_n hx hb dX4_init_4 rfl (lv_at hl 0 rfl) ?_
  refine lv_bipush (v := 8) hx hb dX4_init_5 (by decide) ?_
  refine n_newa F w (atype := .int) (ty := .int) (t := 2) (N := 8) (cA := cy 2) (a0 := (8, .inl (fun _ => 0))) tb_741 rfl (fun _ h => h) rfl (fun _ => rfl) (by decide) (by decide) (Nat.le_of_ble_eq_true rfl) (Nat.le_of_ble_eq_true rfl) (Nat.le_of_ble_eq_true rfl) (c1 := 1) (s1 := 8) (n1 := 8) rfl rfl rfl dX4_init_7 (fun H w => ?_)
  refine n_putF F w (a := 6) (C := RX4) (T := TX4) (N := 1) (ci := 4) (k := 0) (x := .ref (B + 7)) (ty := .array .int) (fs1 := [.ref (B + 7)]) tyX4 tyX4_ok nmX4 (by decide) ((up_ne (by decide)).trans h0) rfl rfl inT4 (by decide) rfl tb_49 rfl hin rfl (by decide +kernel) rfl rfl (Nat.le_of_ble_eq_true rfl) dX4_init_9 (fun H locs w => ?_)
  exact n_end F w hr hlocks dX4_init_12
theorem tk_X4_init : Cond.code yX4_init cX4_init 1 none ∈ TB := tbm (tc1 (List.mem_of_getElem? (i := 72) rfl)) rfl
theorem gc_X4_init : GoodIn TB (cw yX4_init cX4_init 1 none) := goodIn_c2 tk_X4_init
theorem hs_X4_init : yX4_init.cls ≠ "java/lang/invoke/MethodHandle" ∧ yX4_init.cls ≠ "java/lang/invoke/VarHandle" ∧ (parseMethodDescriptor yX4_init.desc).map (fun d => d.parameters.length) = some 0 := by decide +kernel
theorem tb_742 : Cond.instanceMethod yX4_init ∈ TB := tbm (tc1 (List.mem_of_getElem? (i := 71) rfl)) rfl
theorem dX5_init_58 : decode cX5_init 58 = .ok (.aastore, 1) := dq0 kk_83 (by decide +kernel)
theorem dX5_init_59 : decode cX5_init 59 = .ok (.iinc 2 1, 3) := dqI kk_132 (by decide +kernel)
theorem dX5_init_62 : decode cX5_init 62 = .ok (.goto (-22), 3) := dqT kk_167 (by decide +kernel)
set_option maxRecDepth 8000 in
theorem n_X4_init_4 {l : Launch} {D : va_G} {B : Nat} {cy : Nat → ClassId} {E : Nat → va_E} (h0 : E 8 = .inr (4, [.null])) : Cn l D B cy yX4_init cX4_init 1 1 12 1 8 [.ref (B + 8)] 9 E 10 (va_up (va_up E 9 (.inl (cy 2, 8, .inl (fun _ => 0)))) 8 (.inr (4, [.ref (B + 9)]))) := by
  refine n_start (by decide) (Nat.le_of_ble_eq_true rfl) rfl ?_
  intro p e s m below meth c ls F hr hlocks hin w hl
  have F : CallFix p m c cX4_init 1 s _ TB RX4 := F
  have hx := F.1
  have hb := F.2.1
  have hl : lv_has ls 1 [(0, .ref (B + 8))] := hl
  refine lv_aload_n hx hb dX4_init_0 rfl (lv_at hl 0 rfl) ?_
  refine n_obj F hl.1 tb_740 tb_723 tk_obj dX4_init_1 (Nat.le_of_ble_eq_true rfl) (Nat.le_of_ble_eq_true rfl) ?_
  refine lv_aload_n hx hb dX4_init_4 rfl (lv_at hl 0 rfl) ?_
  refine lv_bipush (v := 8) hx hb dX4_init_5 (by decide) ?_
  refine n_newa F w (atype := .int) (ty := .int) (t := 2) (N := 8) (cA := cy 2) (a0 := (8, .inl (fun _ => 0))) tb_741 rfl (fun _ h => h) rfl (fun _ => rfl) (by decide) (by decide) (Nat.le_of_ble_eq_true rfl) (Nat.le_of_ble_eq_true rfl) (Nat.le_of_ble_eq_true rfl) (c1 := 1) (s1 := 8) (n1 := 10) rfl rfl rfl dX4_init_7 (fun H w => ?_)
  refine n_putF F w (a := 8) (C := RX4) (T := TX4) (N := 1) (ci := 4) (k := 0) (x := .ref (B + 9)) (ty := .array .int) (fs1 := [.ref (B + 9)]) tyX4 tyX4_ok nmX4 (by decide) ((up_ne (by decide)).trans h0) rfl rfl inT4 (by decide) rfl tb_49 rfl hin rfl (by decide +kernel) rfl rfl (Nat.le_of_ble_eq_true rfl) dX4_init_9 (fun H locs w => ?_)
  exact n_end F w hr hlocks dX4_init_12
set_option maxRecDepth 8000 in
theorem n_X4_init_5 {l : Launch} {D : va_G} {B : Nat} {cy : Nat → ClassId} {E : Nat → va_E} (h0 : E 10 = .inr (4, [.null])) : Cn l D B cy yX4_init cX4_init 1 1 12 1 8 [.ref (B + 10)] 11 E 12 (va_up (va_up E 11 (.inl (cy 2, 8, .inl (fun _ => 0)))) 10 (.inr (4, [.ref (B + 11)]))) := by
  refine n_start (by decide) (Nat.le_of_ble_eq_true rfl) rfl ?_
  intro p e s m below meth c ls F hr hlocks hin w hl
  have F : CallFix p m c cX4_init 1 s _ TB RX4 := F
  have hx := F.1
  have hb := F.2.1
  have hl : lv_has ls 1 [(0, .ref (B + 10))] := hl
  refine lv_aload_n hx hb dX4_init_0 rfl (lv_at hl 0 rfl) ?_
  refine n_obj F hl.1 tb_740 tb_723 tk_obj dX4_init_1 (Nat.le_of_ble_eq_true rfl) (Nat.le_of_ble_eq_true rfl) ?_
  refine lv_aload_n hx hb dX4_init_4 rfl (lv_at hl 0 rfl) ?_
  refine lv_bipush (v := 8) hx hb dX4_init_5 (by decide) ?_
  refine n_newa F w (atype := .int) (ty := .int) (t := 2) (N := 8) (cA := cy 2) (a0 := (8, .inl (fun _ => 0))) tb_741 rfl (fun _ h => h) rfl (fun _ => rfl) (by decide) (by decide) (Nat.le_of_ble_eq_true rfl) (Nat.le_of_ble_eq_true rfl) (Nat.le_of_ble_eq_true rfl) (c1 := 1) (s1 := 8) (n1 := 12) rfl rfl rfl dX4_init_7 (fun H w => ?_)
  refine n_putF F w (a := 10) (C := RX4) (T := TX4) (N := 1) (ci := 4) (k := 0) (x := .ref (B + 11)) (ty := .array .int) (fs1 := [.ref (B + 11)]) tyX4 tyX4_ok nmX4 (by decide) ((up_ne (by decide)).trans h0) rfl rfl inT4 (by decide) rfl tb_49 rfl hin rfl (by decide +kernel) rfl rfl (Nat.le_of_ble_eq_true rfl) dX4_init_9 (fun H locs w => ?_)
  exact n_end F w hr hlocks dX4_init_12
set_option maxRecDepth 8000 in
theorem n_X4_init_6 {l : Launch} {D : va_G} {B : Nat} {cy : Nat → ClassId} {E : Nat → va_E} (h0 : E 12 = .inr (4, [.null])) : Cn l D B cy yX4_init cX4_init 1 1 12 1 8 [.ref (B + 12)] 13 E 14 (va_up (va_up E 13 (.inl (cy 2, 8, .inl (fun _ => 0)))) 12 (.inr (4, [.ref (B + 13)]))) := by
  refine n_start (by decide) (Nat.le_of_ble_eq_true rfl) rfl ?_
  intro p e s m below meth c ls F hr hlocks hin w hl
  have F : CallFix p m c cX4_init 1 s _ TB RX4 := F
  have hx := F.1
  have hb := F.2.1
  have hl : lv_has ls 1 [(0, .ref (B + 12))] := hl
  refine lv_aload_n hx hb dX4_init_0 rfl (lv_at hl 0 rfl) ?_
  refine n_obj F hl.1 tb_740 tb_723 tk_obj dX4_init_1 (Nat.le_of_ble_eq_true rfl) (Nat.le_of_ble_eq_true rfl) ?_
  refine lv_aload_n hx hb dX4_init_4 rfl (lv_at hl 0 rfl) ?_
  refine lv_bipush (v := 8) hx hb dX4_init_5 (by decide) ?_
  refine n_newa F w (atype := .int) (ty := .int) (t := 2) (N := 8) (cA := cy 2) (a0 := (8, .inl (fun _ => 0))) tb_741 rfl (fun _ h => h) rfl (fun _ => rfl) (by decide) (by decide) (Nat.le_of_ble_eq_true rfl) (Nat.le_of_ble_eq_true rfl) (Nat.le_of_ble_eq_true rfl) (c1 := 1) (s1 := 8) (n1 := 14) rfl rfl rfl dX4_init_7 (fun H w => ?_)
  refine n_putF F w (a := 12) (C := RX4) (T := TX4) (N := 1) (ci := 4) (k := 0) (x := .ref (B + 13)) (ty := .array .int) (fs1 := [.ref (B + 13)]) tyX4 tyX4_ok nmX4 (by decide) ((up_ne (by decide)).trans h0) rfl rfl inT4 (by decide) rfl tb_49 rfl hin rfl (by decide +kernel) rfl rfl (Nat.le_of_ble_eq_true rfl) dX4_init_9 (fun H locs w => ?_)
  exact n_end F w hr hlocks dX4_init_12
set_option maxRecDepth 8000 in
theorem n_X4_init_7 {l : Launch} {D : va_G} {B : Nat} {cy : Nat → ClassId} {E : Nat → va_E} (h0 : E 14 = .inr (4, [.null])) : Cn l D B cy yX4_init cX4_init 1 1 12 1 8 [.ref (B + 14)] 15 E 16 (va_up (va_up E 15 (.inl (cy 2, 8, .inl (fun _ => 0)))) 14 (.inr (4, [.ref (B + 15)]))) := by
  refine n_start (by decide) (Nat.le_of_ble_eq_true rfl) rfl ?_
  intro p e s m below meth c ls F hr hlocks hin w hl
  have F : CallFix p m c cX4_init 1 s _ TB RX4 := F
  have hx := F.1
  have hb := F.2.1
  have hl : lv_has ls 1 [(0, .ref (B + 14))] := hl
  refine lv_aload_n hx hb dX4_init_0 rfl (lv_at hl 0 rfl) ?_
  refine n_obj F hl.1 tb_740 tb_723 tk_obj dX4_init_1 (Nat.le_of_ble_eq_true rfl) (Nat.le_of_ble_eq_true rfl) ?_
  refine lv_aload_n hx hb dX4_init_4 rfl (lv_at hl 0 rfl) ?_
  refine lv_bipush (v := 8) hx hb dX4_init_5 (by decide) ?_
  refine n_newa F w (atype := .int) (ty := .int) (t := 2) (N := 8) (cA := cy 2) (a0 := (8, .inl (fun _ => 0))) tb_741 rfl (fun _ h => h) rfl (fun _ => rfl) (by decide) (by decide) (Nat.le_of_ble_eq_true rfl) (Nat.le_of_ble_eq_true rfl) (Nat.le_of_ble_eq_true rfl) (c1 := 1) (s1 := 8) (n1 := 16) rfl rfl rfl dX4_init_7 (fun H w => ?_)
  refine n_putF F w (a := 14) (C := RX4) (T := TX4) (N := 1) (ci := 4) (k := 0) (x := .ref (B + 15)) (ty := .array .int) (fs1 := [.ref (B + 15)]) tyX4 tyX4_ok nmX4 (by decide) ((up_ne (by decide)).trans h0) rfl rfl inT4 (by decide) rfl tb_49 rfl hin rfl (by decide +kernel) rfl rfl (Nat.le_of_ble_eq_true rfl) dX4_init_9 (fun H locs w => ?_)
  exact n_end F w hr hlocks dX4_init_12
set_option maxRecDepth 8000 in
theorem n_X4_init_8 {l : Launch} {D : va_G} {B : Nat} {cy : Nat → ClassId} {E : Nat → va_E} (h0 : E 16 = .inr (4, [.null])) : Cn l D B cy yX4_init cX4_init 1 1 12 1 8 [.ref (B + 16)] 17 E 18 (va_up (va_up E 17 (.inl (cy 2, 8, .inl (fun _ => 0)))) 16 (.inr (4, [.ref (B + 17)]))) := by
  refine n_start (by decide) (Nat.le_of_ble_eq_true rfl) rfl ?_
  intro p e s m below meth c ls F hr hlocks hin w hl
  have F : CallFix p m c cX4_init 1 s _ TB RX4 := F
  have hx := F.1
  have hb := F.2.1
  have hl : lv_has ls 1 [(0, .ref (B + 16))] := hl
  refine lv_aload_n hx hb dX4_init_0 rfl (lv_at hl 0 rfl) ?_
  refine n_obj F hl.1 tb_740 tb_723 tk_obj dX4_init_1 (Nat.le_of_ble_eq_true rfl) (Nat.le_of_ble_eq_true rfl) ?_
  refine lv_aload_n hx hb dX4_init_4 rfl (lv_at hl 0 rfl) ?_
  refine lv_bipush (v := 8) hx hb dX4_init_5 (by decide) ?_
  refine n_newa F w (atype := .int) (ty := .int) (t := 2) (N := 8) (cA := cy 2) (a0 := (8, .inl (fun _ => 0))) tb_741 rfl (fun _ h => h) rfl (fun _ => rfl) (by decide) (by decide) (Nat.le_of_ble_eq_true rfl) (Nat.le_of_ble_eq_true rfl) (Nat.le_of_ble_eq_true rfl) (c1 := 1) (s1 := 8) (n1 := 18) rfl rfl rfl dX4_init_7 (fun H w => ?_)
  refine n_putF F w (a := 16) (C := RX4) (T := TX4) (N := 1) (ci := 4) (k := 0) (x := .ref (B + 17)) (ty := .array .int) (fs1 := [.ref (B + 17)]) tyX4 tyX4_ok nmX4 (by decide) ((up_ne (by decide)).trans h0) rfl rfl inT4 (by decide) rfl tb_49 rfl hin rfl (by decide +kernel) rfl rfl (Nat.le_of_ble_eq_true rfl) dX4_init_9 (fun H locs w => ?_)
  exact n_end F w hr hlocks dX4_init_12
set_option maxRecDepth 8000 in
theorem n_X4_init_9 {l : Launch} {D : va_G} {B : Nat} {cy : Nat → ClassId} {E : Nat → va_E} (h0 : E 18 = .inr (4, [.null])) : Cn l D B cy yX4_init cX4_init 1 1 12 1 8 [.ref (B + 18)] 19 E 20 (va_up (va_up E 19 (.inl (cy 2, 8, .inl (fun _ => 0)))) 18 (.inr (4, [.ref (B + 19)]))) := by
  refine n_start (by decide) (Nat.le_of_ble_eq_true rfl) rfl ?_
  intro p e s m below meth c ls F hr hlocks hin w hl
  have F : CallFix p m c cX4_init 1 s _ TB RX4 := F
  have hx := F.1
  have hb := F.2.1
  have hl : lv_has ls 1 [(0, .ref (B + 18))] := hl
  refine lv_aload_n hx hb dX4_init_0 rfl (lv_at hl 0 rfl) ?_
  refine n_obj F hl.1 tb_740 tb_723 tk_obj dX4_init_1 (Nat.le_of_ble_eq_true rfl) (Nat.le_of_ble_eq_true rfl) ?_
  refine lv_aload_n hx hb dX4_init_4 rfl (lv_at hl 0 rfl) ?_
  refine lv_bipush (v := 8) hx hb dX4_init_5 (by decide) ?_
  refine n_newa F w (atype := .int) (ty := .int) (t := 2) (N := 8) (cA := cy 2) (a0 := (8, .inl (fun _ => 0))) tb_741 rfl (fun _ h => h) rfl (fun _ => rfl) (by decide) (by decide) (Nat.le_of_ble_eq_true rfl) (Nat.le_of_ble_eq_true rfl) (Nat.le_of_ble_eq_true rfl) (c1 := 1) (s1 := 8) (n1 := 20) rfl rfl rfl dX4_init_7 (fun H w => ?_)
  refine n_putF F w (a := 18) (C := RX4) (T := TX4) (N := 1) (ci := 4) (k := 0) (x := .ref (B + 19)) (ty := .array .int) (fs1 := [.ref (B + 19)]) tyX4 tyX4_ok nmX4 (by decide) ((up_ne (by decide)).trans h0) rfl rfl inT4 (by decide) rfl tb_49 rfl hin rfl (by decide +kernel) rfl rfl (Nat.le_of_ble_eq_true rfl) dX4_init_9 (fun H locs w => ?_)
  exact n_end F w hr hlocks dX4_init_12
set_option maxRecDepth 8000 in
theorem n_X4_init_10 {l : Launch} {D : va_G} {B : Nat} {cy : Nat → ClassId} {E : Nat → va_E} (h0 : E 20 = .inr (4, [.null])) : Cn l D B cy yX4_init cX4_init 1 1 12 1 8 [.ref (B + 20)] 21 E 22 (va_up (va_up E 21 (.inl (cy 2, 8, .inl (fun _ => 0)))) 20 (.inr (4, [.ref (B + 21)]))) := by
  refine n_start (by decide) (Nat.le_of_ble_eq_true rfl) rfl ?_
  intro p e s m below meth c ls F hr hlocks hin w hl
  have F : CallFix p m c cX4_init 1 s _ TB RX4 := F
  have hx := F.1
  have hb := F.2.1
  have hl : lv_has ls 1 [(0, .ref (B + 20))] := hl
  refine lv_aload_n hx hb dX4_init_0 rfl (lv_at hl 0 rfl) ?_
  refine n_obj F hl.1 tb_740 tb_723 tk_obj dX4_init_1 (Nat.le_of_ble_eq_true rfl) (Nat.le_of_ble_eq_true rfl) ?_
  refine lv_aload_n hx hb dX4_init_4 rfl (lv_at hl 0 rfl) ?_
  refine lv_bipush (v := 8) hx hb dX4_init_5 (by decide) ?_
  refine n_newa F w (atype := .int) (ty := .int) (t := 2) (N := 8) (cA := cy 2) (a0 := (8, .inl (fun _ => 0))) tb_741 rfl (fun _ h => h) rfl (fun _ => rfl) (by decide) (by decide) (Nat.le_of_ble_eq_true rfl) (Nat.le_of_ble_eq_true rfl) (Nat.le_of_ble_eq_true rfl) (c1 := 1) (s1 := 8) (n1 := 22) rfl rfl rfl dX4_init_7 (fun H w => ?_)
  refine n_putF F w (a := 20) (C := RX4) (T := TX4) (N := 1) (ci := 4) (k := 0) (x := .ref (B + 21)) (ty := .array .int) (fs1 := [.ref (B + 21)]) tyX4 tyX4_ok nmX4 (by decide) ((up_ne (by decide)).trans h0) rfl rfl inT4 (by decide) rfl tb_49 rfl hin rfl (by decide +kernel) rfl rfl (Nat.le_of_ble_eq_true rfl) dX4_init_9 (fun H locs w => ?_)
  exact n_end F w hr hlocks dX4_init_12
theorem dX5_init_65 : decode cX5_init 65 = .ok (.return_, 1) := dq0 kk_177 (by decide +kernel)
set_option maxRecDepth 8000 in
theorem n_X5_init_11 {l : Launch} {D : va_G} {B : Nat} {cy : Nat → ClassId} {E : Nat → va_E} (h0 : E 4 = .inr (5, [.null, .null, .int 0, .int 0, .int 0, .int 0])) : Cn l D B cy yX5_init cX5_init 3 2 32 17 80 [.ref (B + 4), .ref (B + 1)] 5 E 22 (va_up (va_up (va_up (va_up (va_up (va_up (va_up (va_up (va_up (va_up (va_up (va_up (va_up (va_up (va_up (va_up (va_up (va_up (va_up (va_up (va_up (va_up (va_up (va_up (va_up (va_up (va_up (va_up (va_up (va_up (va_up (va_up (va_up (va_up E 5 (.inl (cy 4, 8, .inr (.inr (.inr (.inr (fun _ => none))))))) 4 (.inr (5, [.ref (B + 1), .ref (B + 5), .int 0, .int 0, .int 0, .int 0]))) 6 (.inr (4, [.null]))) 7 (.inl (cy 2, 8, .inl (fun _ => 0)))) 6 (.inr (4, [.ref (B + 7)]))) 5 (.inl (cy 4, 8, .inr (.inr (.inr (.inr (va_up (fun _ => none) 0 (some (B + 6))))))))) 8 (.inr (4, [.null]))) 9 (.inl (cy 2, 8, .inl (fun _ => 0)))) 8 (.inr (4, [.ref (B + 9)]))) 5 (.inl (cy 4, 8, .inr (.inr (.inr (.inr (va_up (va_up (fun _ => none) 0 (some (B + 6))) 1 (some (B + 8))))))))) 10 (.inr (4, [.null]))) 11 (.inl (cy 2, 8, .inl (fun _ => 0)))) 10 (.inr (4, [.ref (B + 11)]))) 5 (.inl (cy 4, 8, .inr (.inr (.inr (.inr (va_up (va_up (va_up (fun _ => none) 0 (some (B + 6))) 1 (some (B + 8))) 2 (some (B + 10))))))))) 12 (.inr (4, [.null]))) 13 (.inl (cy 2, 8, .inl (fun _ => 0)))) 12 (.inr (4, [.ref (B + 13)]))) 5 (.inl (cy 4, 8, .inr (.inr (.inr (.inr (va_up (va_up (va_up (va_up (fun _ => none) 0 (some (B + 6))) 1 (some (B + 8))) 2 (some (B + 10))) 3 (some (B + 12))))))))) 14 (.inr (4, [.null]))) 15 (.inl (cy 2, 8, .inl (fun _ => 0)))) 14 (.inr (4, [.ref (B + 15)]))) 5 (.inl (cy 4, 8, .inr (.inr (.inr (.inr (va_up (va_up (va_up (va_up (va_up (fun _ => none) 0 (some (B + 6))) 1 (some (B + 8))) 2 (some (B + 10))) 3 (some (B + 12))) 4 (some (B + 14))))))))) 16 (.inr (4, [.null]))) 17 (.inl (cy 2, 8, .inl (fun _ => 0)))) 16 (.inr (4, [.ref (B + 17)]))) 5 (.inl (cy 4, 8, .inr (.inr (.inr (.inr (va_up (va_up (va_up (va_up (va_up (va_up (fun _ => none) 0 (some (B + 6))) 1 (some (B + 8))) 2 (some (B + 10))) 3 (some (B + 12))) 4 (some (B + 14))) 5 (some (B + 16))))))))) 18 (.inr (4, [.null]))) 19 (.inl (cy 2, 8, .inl (fun _ => 0)))) 18 (.inr (4, [.ref (B + 19)]))) 5 (.inl (cy 4, 8, .inr (.inr (.inr (.inr (va_up (va_up (va_up (va_up (va_up (va_up (va_up (fun _ => none) 0 (some (B + 6))) 1 (some (B + 8))) 2 (some (B + 10))) 3 (some (B + 12))) 4 (some (B + 14))) 5 (some (B + 16))) 6 (some (B + 18))))))))) 20 (.inr (4, [.null]))) 21 (.inl (cy 2, 8, .inl (fun _ => 0)))) 20 (.inr (4, [.ref (B + 21)]))) 5 (.inl (cy 4, 8, .inr (.inr (.inr (.inr (va_up (va_up (va_up (va_up (va_up (va_up (va_up (va_up (fun _ => none) 0 (some (B + 6))) 1 (some (B + 8))) 2 (some (B + 10))) 3 (some (B + 12))) 4 (some (B + 14))) 5 (some (B + 16))) 6 (some (B + 18))) 7 (some (B + 20))))))))) := by
  refine n_start (by decide) (Nat.le_of_ble_eq_true rfl) rfl ?_
  intro p e s m below meth c ls F hr hlocks hin w hl
  have F : CallFix p m c cX5_init 3 s _ TB RX5 := F
  have hx := F.1
  have hb := F.2.1
  have hl : lv_has ls 3 [(0, .ref (B + 4)), (1, .ref (B + 1))] := hl
  refine lv_aload_n hx hb dX5_init_0 rfl (lv_at hl 0 rfl) ?_
  refine n_obj F hl.1 tb_737 tb_723 tk_obj dX5_init_1 (Nat.le_of_ble_eq_true rfl) (Nat.le_of_ble_eq_true rfl) ?_
  refine lv_aload_n hx hb dX5_init_4 rfl (lv_at hl 0 rfl) ?_
  refine lv_bipush (v := 8) hx hb dX5_init_5 (by decide) ?_
  refine n_newq F w (t := 4) (N := 8) (cA := cy 4) (C := "ToneLines$Rule") w.2.2.2.2.2.1.1 tb_738 rfl (by decide) (by decide) (Nat.le_of_ble_eq_true rfl) (Nat.le_of_ble_eq_true rfl) (Nat.le_of_ble_eq_true rfl) (c1 := 1) (s1 := 8) (n1 := 6) rfl rfl rfl dX5_init_7 (fun H w => ?_)
  refine n_putF F w (a := 4) (C := RX5) (T := TX5) (N := 6) (ci := 5) (k := 1) (x := .ref (B + 5)) (ty := .array (.object "ToneLines$Rule")) (fs1 := [.null, .ref (B + 5), .int 0, .int 0, .int 0, .int 0]) tyX5 tyX5_ok nmX5 (by decide) ((up_ne (by decide)).trans h0) rfl rfl inT5 (by decide) rfl tb_511 rfl hin rfl (by decide +kernel) rfl rfl (Nat.le_of_ble_eq_true rfl) dX5_init_10 (fun H locs w => ?_)
  refine lv_aload_n hx hb dX5_init_13 rfl (lv_at hl 0 rfl) ?_
  refine lv_iconst (v := 0) hx hb dX5_init_14 (by decide) ?_
  refine n_put F w (a := 4) (C := RX5) (T := TX5) (N := 6) (ci := 5) (k := 2) (x := .int 0) (ty := .int) (fs1 := [.null, .ref (B + 5), .int 0, .int 0, .int 0, .int 0]) tyX5 tyX5_ok nmX5 (by decide) (up_at) rfl rfl inT5 (by decide) rfl tb_510 rfl (by decide +kernel) rfl rfl (Nat.le_of_ble_eq_true rfl) dX5_init_15 (fun H locs w => ?_)
  rw [up_same (up_at)] at w
  refine lv_aload_n hx hb dX5_init_18 rfl (lv_at hl 0 rfl) ?_
  refine lv_iconst (v := 0) hx hb dX5_init_19 (by decide) ?_
  refine n_put F w (a := 4) (C := RX5) (T := TX5) (N := 6) (ci := 5) (k := 3) (x := .int 0) (ty := .int) (fs1 := [.null, .ref (B + 5), .int 0, .int 0, .int 0, .int 0]) tyX5 tyX5_ok nmX5 (by decide) (up_at) rfl rfl inT5 (by decide) rfl tb_471 rfl (by decide +kernel) rfl rfl (Nat.le_of_ble_eq_true rfl) dX5_init_20 (fun H locs w => ?_)
  rw [up_same (up_at)] at w
  refine lv_aload_n hx hb dX5_init_23 rfl (lv_at hl 0 rfl) ?_
  refine lv_iconst (v := 0) hx hb dX5_init_24 (by decide) ?_
  refine n_put F w (a := 4) (C := RX5) (T := TX5) (N := 6) (ci := 5) (k := 4) (x := .int 0) (ty := .int) (fs1 := [.null, .ref (B + 5), .int 0, .int 0, .int 0, .int 0]) tyX5 tyX5_ok nmX5 (by decide) (up_at) rfl rfl inT5 (by decide) rfl tb_468 rfl (by decide +kernel) rfl rfl (Nat.le_of_ble_eq_true rfl) dX5_init_25 (fun H locs w => ?_)
  rw [up_same (up_at)] at w
  refine lv_aload_n hx hb dX5_init_28 rfl (lv_at hl 0 rfl) ?_
  refine lv_iconst (v := 0) hx hb dX5_init_29 (by decide) ?_
  refine n_put F w (a := 4) (C := RX5) (T := TX5) (N := 6) (ci := 5) (k := 5) (x := .int 0) (ty := .boolean) (fs1 := [.null, .ref (B + 5), .int 0, .int 0, .int 0, .int 0]) tyX5 tyX5_ok nmX5 (by decide) (up_at) rfl rfl inT5 (by decide) rfl tb_473 rfl (by decide +kernel) rfl rfl (Nat.le_of_ble_eq_true rfl) dX5_init_30 (fun H locs w => ?_)
  rw [up_same (up_at)] at w
  refine lv_aload_n hx hb dX5_init_33 rfl (lv_at hl 0 rfl) ?_
  refine lv_aload_n hx hb dX5_init_34 rfl (lv_at hl 1 rfl) ?_
  refine n_putF F w (a := 4) (C := RX5) (T := TX5) (N := 6) (ci := 5) (k := 0) (x := .ref (B + 1)) (ty := .object "ToneLines$Tape") (fs1 := [.ref (B + 1), .ref (B + 5), .int 0, .int 0, .int 0, .int 0]) tyX5 tyX5_ok nmX5 (by decide) (up_at) rfl rfl inT5 (by decide) rfl tb_469 rfl hin rfl (by decide +kernel) rfl rfl (Nat.le_of_ble_eq_true rfl) dX5_init_35 (fun H locs w => ?_)
  rw [up_up] at w
  refine lv_iconst (v := 0) hx hb dX5_init_38 (by decide) ?_
  refine lv_istore_n (lv' := [(2, .int 0), (0, .ref (B + 4)), (1, .ref (B + 1))]) hx hb dX5_init_39 rfl hl (by decide) rfl (fun ls hl => ?_)
  refine lv_iload_n hx hb dX5_init_40 rfl (lv_at hl 0 rfl) ?_
  refine lv_bipush (v := 8) hx hb dX5_init_41 (by decide) ?_
  refine lv_icmp_ge (tgt := 65) hx hb dX5_init_43 (by decide) (fun c1 => absurd c1 (by decide)) (fun _ => ?_)
  refine lv_aload_n hx hb dX5_init_46 rfl (lv_at hl 1 rfl) ?_
  refine n_get F w (a := 4) (C := RX5) (T := TX5) (N := 6) (ci := 5) (k := 1) (by decide) (up_at) rfl inT5 (by decide) rfl tb_511 rfl dX5_init_47 ?_
  refine lv_iload_n hx hb dX5_init_50 rfl (lv_at hl 0 rfl) ?_
  refine n_new F w (C := RX4) (T := TX4) (N := 1) (ci := 4) (fs := [.null]) tyX4 tyX4_ok inT4 tb_738 tb_739 tb_121 rfl nf_4 (Nat.le_of_ble_eq_true rfl) (Nat.le_of_ble_eq_true rfl) (c1 := 2) (s1 := 9) (n1 := 7) rfl rfl rfl dX5_init_51 (fun H w => ?_)
  refine lv_dup hx hb dX5_init_54 rfl ?_
  refine n_callN F w (b := 6) (As := []) (rest := [.ref (B + 6), .int 0, .ref (B + 5)]) (n_X4_init_3 (up_at)) gc_X4_init rfl tb_121 (by decide) tb_742 hs_X4_init ⟨(Nat.le_of_ble_eq_true rfl), (Nat.le_of_ble_eq_true rfl)⟩ hl.1 rfl (Nat.le_of_ble_eq_true rfl) ⟨(Nat.le_of_ble_eq_true rfl), (Nat.le_of_ble_eq_true rfl)⟩ (k1 := 3) (k2 := 17) rfl rfl dX5_init_55 (fun H locs w => ?_)
  refine n_ast F w (a := 5) (v := 6) (j := 0) (t := 4) (ci := 4) (by decide) (by decide) ((up_ne (by decide)).trans ((up_ne (by decide)).trans ((up_ne (by decide)).trans ((up_ne (by decide)).trans up_at)))) rfl (up_at) rfl ⟨by decide, by decide⟩ (by decide) dX5_init_58 (fun H locs w => ?_)
  refine lv_iinc (v := 1) (lv' := [(2, .int 1), (0, .ref (B + 4)), (1, .ref (B + 1))]) hx hb dX5_init_59 hl (k := 0) rfl (by decide) (by decide) rfl (fun ls hl => ?_)
  refine lv_goto (tgt := 40) hx hb dX5_init_62 (by decide) ?_
  refine lv_iload_n hx hb dX5_init_40 rfl (lv_at hl 0 rfl) ?_
  refine lv_bipush (v := 8) hx hb dX5_init_41 (by decide) ?_
  refine lv_icmp_ge (tgt := 65) hx hb dX5_init_43 (by decide) (fun c1 => absurd c1 (by decide)) (fun _ => ?_)
  refine lv_aload_n hx hb dX5_init_46 rfl (lv_at hl 1 rfl) ?_
  refine n_get F w (a := 4) (C := RX5) (T := TX5) (N := 6) (ci := 5) (k := 1) (by decide) ((up_ne (by decide)).trans ((up_ne (by decide)).trans ((up_ne (by decide)).trans ((up_ne (by decide)).trans up_at)))) rfl inT5 (by decide) rfl tb_511 rfl dX5_init_47 ?_
  refine lv_iload_n hx hb dX5_init_50 rfl (lv_at hl 0 rfl) ?_
  refine n_new F w (C := RX4) (T := TX4) (N := 1) (ci := 4) (fs := [.null]) tyX4 tyX4_ok inT4 tb_738 tb_739 tb_121 rfl nf_4 (Nat.le_of_ble_eq_true rfl) (Nat.le_of_ble_eq_true rfl) (c1 := 4) (s1 := 18) (n1 := 9) rfl rfl rfl dX5_init_51 (fun H w => ?_)
  refine lv_dup hx hb dX5_init_54 rfl ?_
  refine n_callN F w (b := 8) (As := []) (rest := [.ref (B + 8), .int 1, .ref (B + 5)]) (n_X4_init_4 (up_at)) gc_X4_init rfl tb_121 (by decide) tb_742 hs_X4_init ⟨(Nat.le_of_ble_eq_true rfl), (Nat.le_of_ble_eq_true rfl)⟩ hl.1 rfl (Nat.le_of_ble_eq_true rfl) ⟨(Nat.le_of_ble_eq_true rfl), (Nat.le_of_ble_eq_true rfl)⟩ (k1 := 5) (k2 := 26) rfl rfl dX5_init_55 (fun H locs w => ?_)
  refine n_ast F w (a := 5) (v := 8) (j := 1) (t := 4) (ci := 4) (by decide) (by decide) ((up_ne (by decide)).trans ((up_ne (by decide)).trans ((up_ne (by decide)).trans up_at))) rfl (up_at) rfl ⟨by decide, by decide⟩ (by decide) dX5_init_58 (fun H locs w => ?_)
  refine lv_iinc (v := 2) (lv' := [(2, .int 2), (0, .ref (B + 4)), (1, .ref (B + 1))]) hx hb dX5_init_59 hl (k := 0) rfl (by decide) (by decide) rfl (fun ls hl => ?_)
  refine lv_goto (tgt := 40) hx hb dX5_init_62 (by decide) ?_
  refine lv_iload_n hx hb dX5_init_40 rfl (lv_at hl 0 rfl) ?_
  refine lv_bipush (v := 8) hx hb dX5_init_41 (by decide) ?_
  refine lv_icmp_ge (tgt := 65) hx hb dX5_init_43 (by decide) (fun c1 => absurd c1 (by decide)) (fun _ => ?_)
  refine lv_aload_n hx hb dX5_init_46 rfl (lv_at hl 1 rfl) ?_
  refine n_get F w (a := 4) (C := RX5) (T := TX5) (N := 6) (ci := 5) (k := 1) (by decide) ((up_ne (by decide)).trans ((up_ne (by decide)).trans ((up_ne (by decide)).trans ((up_ne (by decide)).trans ((up_ne (by decide)).trans ((up_ne (by decide)).trans ((up_ne (by decide)).trans ((up_ne (by decide)).trans up_at)))))))) rfl inT5 (by decide) rfl tb_511 rfl dX5_init_47 ?_
  refine lv_iload_n hx hb dX5_init_50 rfl (lv_at hl 0 rfl) ?_
  refine n_new F w (C := RX4) (T := TX4) (N := 1) (ci := 4) (fs := [.null]) tyX4 tyX4_ok inT4 tb_738 tb_739 tb_121 rfl nf_4 (Nat.le_of_ble_eq_true rfl) (Nat.le_of_ble_eq_true rfl) (c1 := 6) (s1 := 27) (n1 := 11) rfl rfl rfl dX5_init_51 (fun H w => ?_)
  refine lv_dup hx hb dX5_init_54 rfl ?_
  refine n_callN F w (b := 10) (As := []) (rest := [.ref (B + 10), .int 2, .ref (B + 5)]) (n_X4_init_5 (up_at)) gc_X4_init rfl tb_121 (by decide) tb_742 hs_X4_init ⟨(Nat.le_of_ble_eq_true rfl), (Nat.le_of_ble_eq_true rfl)⟩ hl.1 rfl (Nat.le_of_ble_eq_true rfl) ⟨(Nat.le_of_ble_eq_true rfl), (Nat.le_of_ble_eq_true rfl)⟩ (k1 := 7) (k2 := 35) rfl rfl dX5_init_55 (fun H locs w => ?_)
  refine n_ast F w (a := 5) (v := 10) (j := 2) (t := 4) (ci := 4) (by decide) (by decide) ((up_ne (by decide)).trans ((up_ne (by decide)).trans ((up_ne (by decide)).trans up_at))) rfl (up_at) rfl ⟨by decide, by decide⟩ (by decide) dX5_init_58 (fun H locs w => ?_)
  refine lv_iinc (v := 3) (lv' := [(2, .int 3), (0, .ref (B + 4)), (1, .ref (B + 1))]) hx hb dX5_init_59 hl (k := 0) rfl (by decide) (by decide) rfl (fun ls hl => ?_)
  refine lv_goto (tgt := 40) hx hb dX5_init_62 (by decide) ?_
  refine lv_iload_n hx hb dX5_init_40 rfl (lv_at hl 0 rfl) ?_
  refine lv_bipush (v := 8) hx hb dX5_init_41 (by decide) ?_
  refine lv_icmp_ge (tgt := 65) hx hb dX5_init_43 (by decide) (fun c1 => absurd c1 (by decide)) (fun _ => ?_)
  refine lv_aload_n hx hb dX5_init_46 rfl (lv_at hl 1 rfl) ?_
  refine n_get F w (a := 4) (C := RX5) (T := TX5) (N := 6) (ci := 5) (k := 1) (by decide) ((up_ne (by decide)).trans ((up_ne (by decide)).trans ((up_ne (by decide)).trans ((up_ne (by decide)).trans ((up_ne (by decide)).trans ((up_ne (by decide)).trans ((up_ne (by decide)).trans ((up_ne (by decide)).trans ((up_ne (by decide)).trans ((up_ne (by decide)).trans ((up_ne (by decide)).trans ((up_ne (by decide)).trans up_at)))))))))))) rfl inT5 (by decide) rfl tb_511 rfl dX5_init_47 ?_
  refine lv_iload_n hx hb dX5_init_50 rfl (lv_at hl 0 rfl) ?_
  refine n_new F w (C := RX4) (T := TX4) (N := 1) (ci := 4) (fs := [.null]) tyX4 tyX4_ok inT4 tb_738 tb_739 tb_121 rfl nf_4 (Nat.le_of_ble_eq_true rfl) (Nat.le_of_ble_eq_true rfl) (c1 := 8) (s1 := 36) (n1 := 13) rfl rfl rfl dX5_init_51 (fun H w => ?_)
  refine lv_dup hx hb dX5_init_54 rfl ?_
  refine n_callN F w (b := 12) (As := []) (rest := [.ref (B + 12), .int 3, .ref (B + 5)]) (n_X4_init_6 (up_at)) gc_X4_init rfl tb_121 (by decide) tb_742 hs_X4_init ⟨(Nat.le_of_ble_eq_true rfl), (Nat.le_of_ble_eq_true rfl)⟩ hl.1 rfl (Nat.le_of_ble_eq_true rfl) ⟨(Nat.le_of_ble_eq_true rfl), (Nat.le_of_ble_eq_true rfl)⟩ (k1 := 9) (k2 := 44) rfl rfl dX5_init_55 (fun H locs w => ?_)
  refine n_ast F w (a := 5) (v := 12) (j := 3) (t := 4) (ci := 4) (by decide) (by decide) ((up_ne (by decide)).trans ((up_ne (by decide)).trans ((up_ne (by decide)).trans up_at))) rfl (up_at) rfl ⟨by decide, by decide⟩ (by decide) dX5_init_58 (fun H locs w => ?_)
  refine lv_iinc (v := 4) (lv' := [(2, .int 4), (0, .ref (B + 4)), (1, .ref (B + 1))]) hx hb dX5_init_59 hl (k := 0) rfl (by decide) (by decide) rfl (fun ls hl => ?_)
  refine lv_goto (tgt := 40) hx hb dX5_init_62 (by decide) ?_
  refine lv_iload_n hx hb dX5_init_40 rfl (lv_at hl 0 rfl) ?_
  refine lv_bipush (v := 8) hx hb dX5_init_41 (by decide) ?_
  refine lv_icmp_ge (tgt := 65) hx hb dX5_init_43 (by decide) (fun c1 => absurd c1 (by decide)) (fun _ => ?_)
  refine lv_aload_n hx hb dX5_init_46 rfl (lv_at hl 1 rfl) ?_
  refine n_get F w (a := 4) (C := RX5) (T := TX5) (N := 6) (ci := 5) (k := 1) (by decide) ((up_ne (by decide)).trans ((up_ne (by decide)).trans ((up_ne (by decide)).trans ((up_ne (by decide)).trans ((up_ne (by decide)).trans ((up_ne (by decide)).trans ((up_ne (by decide)).trans ((up_ne (by decide)).trans ((up_ne (by decide)).trans ((up_ne (by decide)).trans ((up_ne (by decide)).trans ((up_ne (by decide)).trans ((up_ne (by decide)).trans ((up_ne (by decide)).trans ((up_ne (by decide)).trans ((up_ne (by decide)).trans up_at)))))))))))))))) rfl inT5 (by decide) rfl tb_511 rfl dX5_init_47 ?_
  refine lv_iload_n hx hb dX5_init_50 rfl (lv_at hl 0 rfl) ?_
  refine n_new F w (C := RX4) (T := TX4) (N := 1) (ci := 4) (fs := [.null]) tyX4 tyX4_ok inT4 tb_738 tb_739 tb_121 rfl nf_4 (Nat.le_of_ble_eq_true rfl) (Nat.le_of_ble_eq_true rfl) (c1 := 10) (s1 := 45) (n1 := 15) rfl rfl rfl dX5_init_51 (fun H w => ?_)
  refine lv_dup hx hb dX5_init_54 rfl ?_
  refine n_callN F w (b := 14) (As := []) (rest := [.ref (B + 14), .int 4, .ref (B + 5)]) (n_X4_init_7 (up_at)) gc_X4_init rfl tb_121 (by decide) tb_742 hs_X4_init ⟨(Nat.le_of_ble_eq_true rfl), (Nat.le_of_ble_eq_true rfl)⟩ hl.1 rfl (Nat.le_of_ble_eq_true rfl) ⟨(Nat.le_of_ble_eq_true rfl), (Nat.le_of_ble_eq_true rfl)⟩ (k1 := 11) (k2 := 53) rfl rfl dX5_init_55 (fun H locs w => ?_)
  refine n_ast F w (a := 5) (v := 14) (j := 4) (t := 4) (ci := 4) (by decide) (by decide) ((up_ne (by decide)).trans ((up_ne (by decide)).trans ((up_ne (by decide)).trans up_at))) rfl (up_at) rfl ⟨by decide, by decide⟩ (by decide) dX5_init_58 (fun H locs w => ?_)
  refine lv_iinc (v := 5) (lv' := [(2, .int 5), (0, .ref (B + 4)), (1, .ref (B + 1))]) hx hb dX5_init_59 hl (k := 0) rfl (by decide) (by decide) rfl (fun ls hl => ?_)
  refine lv_goto (tgt := 40) hx hb dX5_init_62 (by decide) ?_
  refine lv_iload_n hx hb dX5_init_40 rfl (lv_at hl 0 rfl) ?_
  refine lv_bipush (v := 8) hx hb dX5_init_41 (by decide) ?_
  refine lv_icmp_ge (tgt := 65) hx hb dX5_init_43 (by decide) (fun c1 => absurd c1 (by decide)) (fun _ => ?_)
  refine lv_aload_n hx hb dX5_init_46 rfl (lv_at hl 1 rfl) ?_
  refine n_get F w (a := 4) (C := RX5) (T := TX5) (N := 6) (ci := 5) (k := 1) (by decide) ((up_ne (by decide)).trans ((up_ne (by decide)).trans ((up_ne (by decide)).trans ((up_ne (by decide)).trans ((up_ne (by decide)).trans ((up_ne (by decide)).trans ((up_ne (by decide)).trans ((up_ne (by decide)).trans ((up_ne (by decide)).trans ((up_ne (by decide)).trans ((up_ne (by decide)).trans ((up_ne (by decide)).trans ((up_ne (by decide)).trans ((up_ne (by decide)).trans ((up_ne (by decide)).trans ((up_ne (by decide)).trans ((up_ne (by decide)).trans ((up_ne (by decide)).trans ((up_ne (by decide)).trans ((up_ne (by decide)).trans up_at)))))))))))))))))))) rfl inT5 (by decide) rfl tb_511 rfl dX5_init_47 ?_
  refine lv_iload_n hx hb dX5_init_50 rfl (lv_at hl 0 rfl) ?_
  refine n_new F w (C := RX4) (T := TX4) (N := 1) (ci := 4) (fs := [.null]) tyX4 tyX4_ok inT4 tb_738 tb_739 tb_121 rfl nf_4 (Nat.le_of_ble_eq_true rfl) (Nat.le_of_ble_eq_true rfl) (c1 := 12) (s1 := 54) (n1 := 17) rfl rfl rfl dX5_init_51 (fun H w => ?_)
  refine lv_dup hx hb dX5_init_54 rfl ?_
  refine n_callN F w (b := 16) (As := []) (rest := [.ref (B + 16), .int 5, .ref (B + 5)]) (n_X4_init_8 (up_at)) gc_X4_init rfl tb_121 (by decide) tb_742 hs_X4_init ⟨(Nat.le_of_ble_eq_true rfl), (Nat.le_of_ble_eq_true rfl)⟩ hl.1 rfl (Nat.le_of_ble_eq_true rfl) ⟨(Nat.le_of_ble_eq_true rfl), (Nat.le_of_ble_eq_true rfl)⟩ (k1 := 13) (k2 := 62) rfl rfl dX5_init_55 (fun H locs w => ?_)
  refine n_ast F w (a := 5) (v := 16) (j := 5) (t := 4) (ci := 4) (by decide) (by decide) ((up_ne (by decide)).trans ((up_ne (by decide)).trans ((up_ne (by decide)).trans up_at))) rfl (up_at) rfl ⟨by decide, by decide⟩ (by decide) dX5_init_58 (fun H locs w => ?_)
  refine lv_iinc (v := 6) (lv' := [(2, .int 6), (0, .ref (B + 4)), (1, .ref (B + 1))]) hx hb dX5_init_59 hl (k := 0) rfl (by decide) (by decide) rfl (fun ls hl => ?_)
  refine lv_goto (tgt := 40) hx hb dX5_init_62 (by decide) ?_
  refine lv_iload_n hx hb dX5_init_40 rfl (lv_at hl 0 rfl) ?_
  refine lv_bipush (v := 8) hx hb dX5_init_41 (by decide) ?_
  refine lv_icmp_ge (tgt := 65) hx hb dX5_init_43 (by decide) (fun c1 => absurd c1 (by decide)) (fun _ => ?_)
  refine lv_aload_n hx hb dX5_init_46 rfl (lv_at hl 1 rfl) ?_
  refine n_get F w (a := 4) (C := RX5) (T := TX5) (N := 6) (ci := 5) (k := 1) (by decide) ((up_ne (by decide)).trans ((up_ne (by decide)).trans ((up_ne (by decide)).trans ((up_ne (by decide)).trans ((up_ne (by decide)).trans ((up_ne (by decide)).trans ((up_ne (by decide)).trans ((up_ne (by decide)).trans ((up_ne (by decide)).trans ((up_ne (by decide)).trans ((up_ne (by decide)).trans ((up_ne (by decide)).trans ((up_ne (by decide)).trans ((up_ne (by decide)).trans ((up_ne (by decide)).trans ((up_ne (by decide)).trans ((up_ne (by decide)).trans ((up_ne (by decide)).trans ((up_ne (by decide)).trans ((up_ne (by decide)).trans ((up_ne (by decide)).trans ((up_ne (by decide)).trans ((up_ne (by decide)).trans ((up_ne (by decide)).trans up_at)))))))))))))))))))))))) rfl inT5 (by decide) rfl tb_511 rfl dX5_init_47 ?_
  refine lv_iload_n hx hb dX5_init_50 rfl (lv_at hl 0 rfl) ?_
  refine n_new F w (C := RX4) (T := TX4) (N := 1) (ci := 4) (fs := [.null]) tyX4 tyX4_ok inT4 tb_738 tb_739 tb_121 rfl nf_4 (Nat.le_of_ble_eq_true rfl) (Nat.le_of_ble_eq_true rfl) (c1 := 14) (s1 := 63) (n1 := 19) rfl rfl rfl dX5_init_51 (fun H w => ?_)
  refine lv_dup hx hb dX5_init_54 rfl ?_
  refine n_callN F w (b := 18) (As := []) (rest := [.ref (B + 18), .int 6, .ref (B + 5)]) (n_X4_init_9 (up_at)) gc_X4_init rfl tb_121 (by decide) tb_742 hs_X4_init ⟨(Nat.le_of_ble_eq_true rfl), (Nat.le_of_ble_eq_true rfl)⟩ hl.1 rfl (Nat.le_of_ble_eq_true rfl) ⟨(Nat.le_of_ble_eq_true rfl), (Nat.le_of_ble_eq_true rfl)⟩ (k1 := 15) (k2 := 71) rfl rfl dX5_init_55 (fun H locs w => ?_)
  refine n_ast F w (a := 5) (v := 18) (j := 6) (t := 4) (ci := 4) (by decide) (by decide) ((up_ne (by decide)).trans ((up_ne (by decide)).trans ((up_ne (by decide)).trans up_at))) rfl (up_at) rfl ⟨by decide, by decide⟩ (by decide) dX5_init_58 (fun H locs w => ?_)
  refine lv_iinc (v := 7) (lv' := [(2, .int 7), (0, .ref (B + 4)), (1, .ref (B + 1))]) hx hb dX5_init_59 hl (k := 0) rfl (by decide) (by decide) rfl (fun ls hl => ?_)
  refine lv_goto (tgt := 40) hx hb dX5_init_62 (by decide) ?_
  refine lv_iload_n hx hb dX5_init_40 rfl (lv_at hl 0 rfl) ?_
  refine lv_bipush (v := 8) hx hb dX5_init_41 (by decide) ?_
  refine lv_icmp_ge (tgt := 65) hx hb dX5_init_43 (by decide) (fun c1 => absurd c1 (by decide)) (fun _ => ?_)
  refine lv_aload_n hx hb dX5_init_46 rfl (lv_at hl 1 rfl) ?_
  refine n_get F w (a := 4) (C := RX5) (T := TX5) (N := 6) (ci := 5) (k := 1) (by decide) ((up_ne (by decide)).trans ((up_ne (by decide)).trans ((up_ne (by decide)).trans ((up_ne (by decide)).trans ((up_ne (by decide)).trans ((up_ne (by decide)).trans ((up_ne (by decide)).trans ((up_ne (by decide)).trans ((up_ne (by decide)).trans ((up_ne (by decide)).trans ((up_ne (by decide)).trans ((up_ne (by decide)).trans ((up_ne (by decide)).trans ((up_ne (by decide)).trans ((up_ne (by decide)).trans ((up_ne (by decide)).trans ((up_ne (by decide)).trans ((up_ne (by decide)).trans ((up_ne (by decide)).trans ((up_ne (by decide)).trans ((up_ne (by decide)).trans ((up_ne (by decide)).trans ((up_ne (by decide)).trans ((up_ne (by decide)).trans ((up_ne (by decide)).trans ((up_ne (by decide)).trans ((up_ne (by decide)).trans ((up_ne (by decide)).trans up_at)))))))))))))))))))))))))))) rfl inT5 (by decide) rfl tb_511 rfl dX5_init_47 ?_
  refine lv_iload_n hx hb dX5_init_50 rfl (lv_at hl 0 rfl) ?_
  refine n_new F w (C := RX4) (T := TX4) (N := 1) (ci := 4) (fs := [.null]) tyX4 tyX4_ok inT4 tb_738 tb_739 tb_121 rfl nf_4 (Nat.le_of_ble_eq_true rfl) (Nat.le_of_ble_eq_true rfl) (c1 := 16) (s1 := 72) (n1 := 21) rfl rfl rfl dX5_init_51 (fun H w => ?_)
  refine lv_dup hx hb dX5_init_54 rfl ?_
  refine n_callN F w (b := 20) (As := []) (rest := [.ref (B + 20), .int 7, .ref (B + 5)]) (n_X4_init_10 (up_at)) gc_X4_init rfl tb_121 (by decide) tb_742 hs_X4_init ⟨(Nat.le_of_ble_eq_true rfl), (Nat.le_of_ble_eq_true rfl)⟩ hl.1 rfl (Nat.le_of_ble_eq_true rfl) ⟨(Nat.le_of_ble_eq_true rfl), (Nat.le_of_ble_eq_true rfl)⟩ (k1 := 17) (k2 := 80) rfl rfl dX5_init_55 (fun H locs w => ?_)
  refine n_ast F w (a := 5) (v := 20) (j := 7) (t := 4) (ci := 4) (by decide) (by decide) ((up_ne (by decide)).trans ((up_ne (by decide)).trans ((up_ne (by decide)).trans up_at))) rfl (up_at) rfl ⟨by decide, by decide⟩ (by decide) dX5_init_58 (fun H locs w => ?_)
  refine lv_iinc (v := 8) (lv' := [(2, .int 8), (0, .ref (B + 4)), (1, .ref (B + 1))]) hx hb dX5_init_59 hl (k := 0) rfl (by decide) (by decide) rfl (fun ls hl => ?_)
  refine lv_goto (tgt := 40) hx hb dX5_init_62 (by decide) ?_
  refine lv_iload_n hx hb dX5_init_40 rfl (lv_at hl 0 rfl) ?_
  refine lv_bipush (v := 8) hx hb dX5_init_41 (by decide) ?_
  refine lv_icmp_ge (tgt := 65) hx hb dX5_init_43 (by decide) (fun _ => ?_) (fun c1 => absurd c1 (by decide))
  exact n_end F w hr hlocks dX5_init_65
theorem tk_X5_init : Cond.code yX5_init cX5_init 3 none ∈ TB := tbm (tc1 (List.mem_of_getElem? (i := 65) rfl)) rfl
theorem gc_X5_init : GoodIn TB (cw yX5_init cX5_init 3 none) := goodIn_c2 tk_X5_init
theorem hs_X5_init : yX5_init.cls ≠ "java/lang/invoke/MethodHandle" ∧ yX5_init.cls ≠ "java/lang/invoke/VarHandle" ∧ (parseMethodDescriptor yX5_init.desc).map (fun d => d.parameters.length) = some 1 := by decide +kernel
theorem tb_743 : Cond.methodLink "ToneLines" 27 yX5_init ∈ TB := tbm (tc1 (List.mem_of_getElem? (i := 63) rfl)) rfl
theorem tb_744 : Cond.instanceMethod yX5_init ∈ TB := tbm (tc1 (List.mem_of_getElem? (i := 64) rfl)) rfl
theorem dX11_init_42 : decode cX11_init 42 = .ok (.putfield 28, 3) := dqV kk_181 (by decide +kernel)
theorem dX11_init_45 : decode cX11_init 45 = .ok (.aload_n 0, 1) := dq0 kk_42 (by decide +kernel)
theorem dX11_init_46 : decode cX11_init 46 = .ok (.new 32, 3) := dqV kk_187 (by decide +kernel)
theorem tb_745 : Cond.classLink "ToneLines" 32 "ToneLines$Derivation" ∈ TB := tbm (tc1 (List.mem_of_getElem? (i := 103) rfl)) rfl
theorem tb_746 : Cond.instantiable "ToneLines$Derivation" 8 ∈ TB := tbm (tc1 (List.mem_of_getElem? (i := 104) rfl)) rfl
theorem dX11_init_49 : decode cX11_init 49 = .ok (.dup, 1) := dq0 kk_89 (by decide +kernel)
theorem dX11_init_50 : decode cX11_init 50 = .ok (.invokespecial 34, 3) := dqV kk_183 (by decide +kernel)
theorem dX0_init_0 : decode cX0_init 0 = .ok (.aload_n 0, 1) := dq0 kk_42 (by decide +kernel)
theorem dX0_init_1 : decode cX0_init 1 = .ok (.invokespecial 3, 3) := dqV kk_183 (by decide +kernel)
theorem tb_747 : Cond.methodLink "ToneLines$Derivation" 3 ⟨"java/lang/Object", "<init>", "()V"⟩ ∈ TB := tbm (tc1 (List.mem_of_getElem? (i := 108) rfl)) rfl
theorem dX0_init_4 : decode cX0_init 4 = .ok (.aload_n 0, 1) := dq0 kk_42 (by decide +kernel)
theorem dX0_init_5 : decode cX0_init 5 = .ok (.new 9, 3) := dqV kk_187 (by decide +kernel)
theorem tb_748 : Cond.classLink "ToneLines$Derivation" 9 "ToneLines$Doer" ∈ TB := tbm (tc1 (List.mem_of_getElem? (i := 109) rfl)) rfl
theorem tb_749 : Cond.instantiable "ToneLines$Doer" 1 ∈ TB := tbm (tc1 (List.mem_of_getElem? (i := 110) rfl)) rfl
theorem dX0_init_8 : decode cX0_init 8 = .ok (.dup, 1) := dq0 kk_89 (by decide +kernel)
theorem dX0_init_9 : decode cX0_init 9 = .ok (.invokespecial 11, 3) := dqV kk_183 (by decide +kernel)
theorem dX1_init_0 : decode cX1_init 0 = .ok (.aload_n 0, 1) := dq0 kk_42 (by decide +kernel)
theorem dX1_init_1 : decode cX1_init 1 = .ok (.invokespecial 3, 3) := dqV kk_183 (by decide +kernel)
theorem tb_750 : Cond.methodLink "ToneLines$Doer" 3 ⟨"java/lang/Object", "<init>", "()V"⟩ ∈ TB := tbm (tc1 (List.mem_of_getElem? (i := 114) rfl)) rfl
theorem dX1_init_4 : decode cX1_init 4 = .ok (.aload_n 0, 1) := dq0 kk_42 (by decide +kernel)
theorem dX1_init_5 : decode cX1_init 5 = .ok (.iconst 0, 1) := dq0 kk_3 (by decide +kernel)
theorem dX1_init_6 : decode cX1_init 6 = .ok (.putfield 9, 3) := dqV kk_181 (by decide +kernel)
theorem dX1_init_9 : decode cX1_init 9 = .ok (.return_, 1) := dq0 kk_177 (by decide +kernel)
set_option maxRecDepth 8000 in
theorem n_X1_init_12 {l : Launch} {D : va_G} {B : Nat} {cy : Nat → ClassId} {E : Nat → va_E} (h0 : E 23 = .inr (1, [.int 0])) : Cn l D B cy yX1_init cX1_init 1 1 12 0 0 [.ref (B + 23)] 24 E 24 E := by
  refine n_start (by decide) (Nat.le_of_ble_eq_true rfl) rfl ?_
  intro p e s m below meth c ls F hr hlocks hin w hl
  have F : CallFix p m c cX1_init 1 s _ TB RX1 := F
  have hx := F.1
  have hb := F.2.1
  have hl : lv_has ls 1 [(0, .ref (B + 23))] := hl
  refine lv_aload_n hx hb dX1_init_0 rfl (lv_at hl 0 rfl) ?_
  refine n_obj F hl.1 tb_750 tb_723 tk_obj dX1_init_1 (Nat.le_of_ble_eq_true rfl) (Nat.le_of_ble_eq_true rfl) ?_
  refine lv_aload_n hx hb dX1_init_4 rfl (lv_at hl 0 rfl) ?_
  refine lv_iconst (v := 0) hx hb dX1_init_5 (by decide) ?_
  refine n_put F w (a := 23) (C := RX1) (T := TX1) (N := 1) (ci := 1) (k := 0) (x := .int 0) (ty := .int) (fs1 := [.int 0]) tyX1 tyX1_ok nmX1 (by decide) (h0) rfl rfl inT1 (by decide) rfl tb_163 rfl (by decide +kernel) rfl rfl (Nat.le_of_ble_eq_true rfl) dX1_init_6 (fun H locs w => ?_)
  rw [up_same (h0)] at w
  exact n_end F w hr hlocks dX1_init_9
theorem tk_X1_init : Cond.code yX1_init cX1_init 1 none ∈ TB := tbm (tc1 (List.mem_of_getElem? (i := 113) rfl)) rfl
theorem gc_X1_init : GoodIn TB (cw yX1_init cX1_init 1 none) := goodIn_c2 tk_X1_init
theorem hs_X1_init : yX1_init.cls ≠ "java/lang/invoke/MethodHandle" ∧ yX1_init.cls ≠ "java/lang/invoke/VarHandle" ∧ (parseMethodDescriptor yX1_init.desc).map (fun d => d.parameters.length) = some 0 := by decide +kernel
theorem tb_751 : Cond.instanceMethod yX1_init ∈ TB := tbm (tc1 (List.mem_of_getElem? (i := 112) rfl)) rfl
theorem dX0_init_12 : decode cX0_init 12 = .ok (.putfield 12, 3) := dqV kk_181 (by decide +kernel)
theorem dX0_init_15 : decode cX0_init 15 = .ok (.aload_n 0, 1) := dq0 kk_42 (by decide +kernel)
theorem dX0_init_16 : decode cX0_init 16 = .ok (.bipush 8, 2) := dqS kk_16 (by decide +kernel)
theorem dX0_init_18 : decode cX0_init 18 = .ok (.anewarray 18, 3) := dqV kk_189 (by decide +kernel)
theorem tb_752 : Cond.classLink "ToneLines$Derivation" 18 "ToneLines$Rule" ∈ TB := tbm (tc1 (List.mem_of_getElem? (i := 120) rfl)) rfl
theorem dX0_init_21 : decode cX0_init 21 = .ok (.putfield 20, 3) := dqV kk_181 (by decide +kernel)
theorem dX0_init_24 : decode cX0_init 24 = .ok (.aload_n 0, 1) := dq0 kk_42 (by decide +kernel)
theorem dX0_init_25 : decode cX0_init 25 = .ok (.iconst 0, 1) := dq0 kk_3 (by decide +kernel)
theorem dX0_init_26 : decode cX0_init 26 = .ok (.putfield 24, 3) := dqV kk_181 (by decide +kernel)
theorem dX0_init_29 : decode cX0_init 29 = .ok (.aload_n 0, 1) := dq0 kk_42 (by decide +kernel)
theorem dX0_init_30 : decode cX0_init 30 = .ok (.bipush 9, 2) := dqS kk_16 (by decide +kernel)
theorem dX0_init_32 : decode cX0_init 32 = .ok (.anewarray 28, 3) := dqV kk_189 (by decide +kernel)
theorem tb_753 : Cond.classLink "ToneLines$Derivation" 28 "ToneLines$Word" ∈ TB := tbm (tc1 (List.mem_of_getElem? (i := 121) rfl)) rfl
theorem dX0_init_35 : decode cX0_init 35 = .ok (.putfield 30, 3) := dqV kk_181 (by decide +kernel)
theorem dX0_init_38 : decode cX0_init 38 = .ok (.aload_n 0, 1) := dq0 kk_42 (by decide +kernel)
theorem dX0_init_39 : decode cX0_init 39 = .ok (.bipush 8, 2) := dqS kk_16 (by decide +kernel)
theorem dX0_init_41 : decode cX0_init 41 = .ok (.newarray .int, 2) := by decide +kernel
theorem dX0_init_43 : decode cX0_init 43 = .ok (.putfield 34, 3) := dqV kk_181 (by decide +kernel)
theorem dX0_init_46 : decode cX0_init 46 = .ok (.aload_n 0, 1) := dq0 kk_42 (by decide +kernel)
theorem dX0_init_47 : decode cX0_init 47 = .ok (.bipush 8, 2) := dqS kk_16 (by decide +kernel)
theorem dX0_init_49 : decode cX0_init 49 = .ok (.newarray .int, 2) := by decide +kernel
theorem dX0_init_51 : decode cX0_init 51 = .ok (.putfield 38, 3) := dqV kk_181 (by decide +kernel)
theorem dX0_init_54 : decode cX0_init 54 = .ok (.aload_n 0, 1) := dq0 kk_42 (by decide +kernel)
theorem dX0_init_55 : decode cX0_init 55 = .ok (.iconst 0, 1) := dq0 kk_3 (by decide +kernel)
theorem dX0_init_56 : decode cX0_init 56 = .ok (.putfield 41, 3) := dqV kk_181 (by decide +kernel)
theorem dX0_init_59 : decode cX0_init 59 = .ok (.iconst 0, 1) := dq0 kk_3 (by decide +kernel)
theorem dX0_init_60 : decode cX0_init 60 = .ok (.istore_n 1, 1) := dq0 kk_60 (by decide +kernel)
theorem dX0_init_61 : decode cX0_init 61 = .ok (.iload_n 1, 1) := dq0 kk_27 (by decide +kernel)
theorem dX0_init_62 : decode cX0_init 62 = .ok (.bipush 8, 2) := dqS kk_16 (by decide +kernel)
theorem dX0_init_64 : decode cX0_init 64 = .ok (.if_icmp .ge 22, 3) := dqT kk_162 (by decide +kernel)
theorem dX0_init_67 : decode cX0_init 67 = .ok (.aload_n 0, 1) := dq0 kk_42 (by decide +kernel)
theorem dX0_init_68 : decode cX0_init 68 = .ok (.getfield 20, 3) := dqV kk_180 (by decide +kernel)
theorem dX0_init_71 : decode cX0_init 71 = .ok (.iload_n 1, 1) := dq0 kk_27 (by decide +kernel)
theorem dX0_init_72 : decode cX0_init 72 = .ok (.new 18, 3) := dqV kk_187 (by decide +kernel)
theorem dX0_init_75 : decode cX0_init 75 = .ok (.dup, 1) := dq0 kk_89 (by decide +kernel)
theorem dX0_init_76 : decode cX0_init 76 = .ok (.invokespecial 44, 3) := dqV kk_183 (by decide +kernel)
set_option maxRecDepth 8000 in
theorem n_X4_init_13 {l : Launch} {D : va_G} {B : Nat} {cy : Nat → ClassId} {E : Nat → va_E} (h0 : E 28 = .inr (4, [.null])) : Cn l D B cy yX4_init cX4_init 1 1 12 1 8 [.ref (B + 28)] 29 E 30 (va_up (va_up E 29 (.inl (cy 2, 8, .inl (fun _ => 0)))) 28 (.inr (4, [.ref (B + 29)]))) := by
  refine n_start (by decide) (Nat.le_of_ble_eq_true rfl) rfl ?_
  intro p e s m below meth c ls F hr hlocks hin w hl
  have F : CallFix p m c cX4_init 1 s _ TB RX4 := F
  have hx := F.1
  have hb := F.2.1
  have hl : lv_has ls 1 [(0, .ref (B + 28))] := hl
  refine lv_aload_n hx hb dX4_init_0 rfl (lv_at hl 0 rfl) ?_
  refine n_obj F hl.1 tb_740 tb_723 tk_obj dX4_init_1 (Nat.le_of_ble_eq_true rfl) (Nat.le_of_ble_eq_true rfl) ?_
  refine lv_aload_n hx hb dX4_init_4 rfl (lv_at hl 0 rfl) ?_
  refine lv_bipush (v := 8) hx hb dX4_init_5 (by decide) ?_
  refine n_newa F w (atype := .int) (ty := .int) (t := 2) (N := 8) (cA := cy 2) (a0 := (8, .inl (fun _ => 0))) tb_741 rfl (fun _ h => h) rfl (fun _ => rfl) (by decide) (by decide) (Nat.le_of_ble_eq_true rfl) (Nat.le_of_ble_eq_true rfl) (Nat.le_of_ble_eq_true rfl) (c1 := 1) (s1 := 8) (n1 := 30) rfl rfl rfl dX4_init_7 (fun H w => ?_)
  refine n_putF F w (a := 28) (C := RX4) (T := TX4) (N := 1) (ci := 4) (k := 0) (x := .ref (B + 29)) (ty := .array .int) (fs1 := [.ref (B + 29)]) tyX4 tyX4_ok nmX4 (by decide) ((up_ne (by decide)).trans h0) rfl rfl inT4 (by decide) rfl tb_49 rfl hin rfl (by decide +kernel) rfl rfl (Nat.le_of_ble_eq_true rfl) dX4_init_9 (fun H locs w => ?_)
  exact n_end F w hr hlocks dX4_init_12
theorem dX0_init_79 : decode cX0_init 79 = .ok (.aastore, 1) := dq0 kk_83 (by decide +kernel)
theorem dX0_init_80 : decode cX0_init 80 = .ok (.iinc 1 1, 3) := dqI kk_132 (by decide +kernel)
theorem dX0_init_83 : decode cX0_init 83 = .ok (.goto (-22), 3) := dqT kk_167 (by decide +kernel)
set_option maxRecDepth 8000 in
theorem n_X4_init_14 {l : Launch} {D : va_G} {B : Nat} {cy : Nat → ClassId} {E : Nat → va_E} (h0 : E 30 = .inr (4, [.null])) : Cn l D B cy yX4_init cX4_init 1 1 12 1 8 [.ref (B + 30)] 31 E 32 (va_up (va_up E 31 (.inl (cy 2, 8, .inl (fun _ => 0)))) 30 (.inr (4, [.ref (B + 31)]))) := by
  refine n_start (by decide) (Nat.le_of_ble_eq_true rfl) rfl ?_
  intro p e s m below meth c ls F hr hlocks hin w hl
  have F : CallFix p m c cX4_init 1 s _ TB RX4 := F
  have hx := F.1
  have hb := F.2.1
  have hl : lv_has ls 1 [(0, .ref (B + 30))] := hl
  refine lv_aload_n hx hb dX4_init_0 rfl (lv_at hl 0 rfl) ?_
  refine n_obj F hl.1 tb_740 tb_723 tk_obj dX4_init_1 (Nat.le_of_ble_eq_true rfl) (Nat.le_of_ble_eq_true rfl) ?_
  refine lv_aload_n hx hb dX4_init_4 rfl (lv_at hl 0 rfl) ?_
  refine lv_bipush (v := 8) hx hb dX4_init_5 (by decide) ?_
  refine n_newa F w (atype := .int) (ty := .int) (t := 2) (N := 8) (cA := cy 2) (a0 := (8, .inl (fun _ => 0))) tb_741 rfl (fun _ h => h) rfl (fun _ => rfl) (by decide) (by decide) (Nat.le_of_ble_eq_true rfl) (Nat.le_of_ble_eq_true rfl) (Nat.le_of_ble_eq_true rfl) (c1 := 1) (s1 := 8) (n1 := 32) rfl rfl rfl dX4_init_7 (fun H w => ?_)
  refine n_putF F w (a := 30) (C := RX4) (T := TX4) (N := 1) (ci := 4) (k := 0) (x := .ref (B + 31)) (ty := .array .int) (fs1 := [.ref (B + 31)]) tyX4 tyX4_ok nmX4 (by decide) ((up_ne (by decide)).trans h0) rfl rfl inT4 (by decide) rfl tb_49 rfl hin rfl (by decide +kernel) rfl rfl (Nat.le_of_ble_eq_true rfl) dX4_init_9 (fun H locs w => ?_)
  exact n_end F w hr hlocks dX4_init_12
set_option maxRecDepth 8000 in
theorem n_X4_init_15 {l : Launch} {D : va_G} {B : Nat} {cy : Nat → ClassId} {E : Nat → va_E} (h0 : E 32 = .inr (4, [.null])) : Cn l D B cy yX4_init cX4_init 1 1 12 1 8 [.ref (B + 32)] 33 E 34 (va_up (va_up E 33 (.inl (cy 2, 8, .inl (fun _ => 0)))) 32 (.inr (4, [.ref (B + 33)]))) := by
  refine n_start (by decide) (Nat.le_of_ble_eq_true rfl) rfl ?_
  intro p e s m below meth c ls F hr hlocks hin w hl
  have F : CallFix p m c cX4_init 1 s _ TB RX4 := F
  have hx := F.1
  have hb := F.2.1
  have hl : lv_has ls 1 [(0, .ref (B + 32))] := hl
  refine lv_aload_n hx hb dX4_init_0 rfl (lv_at hl 0 rfl) ?_
  refine n_obj F hl.1 tb_740 tb_723 tk_obj dX4_init_1 (Nat.le_of_ble_eq_true rfl) (Nat.le_of_ble_eq_true rfl) ?_
  refine lv_aload_n hx hb dX4_init_4 rfl (lv_at hl 0 rfl) ?_
  refine lv_bipush (v := 8) hx hb dX4_init_5 (by decide) ?_
  refine n_newa F w (atype := .int) (ty := .int) (t := 2) (N := 8) (cA := cy 2) (a0 := (8, .inl (fun _ => 0))) tb_741 rfl (fun _ h => h) rfl (fun _ => rfl) (by decide) (by decide) (Nat.le_of_ble_eq_true rfl) (Nat.le_of_ble_eq_true rfl) (Nat.le_of_ble_eq_true rfl) (c1 := 1) (s1 := 8) (n1 := 34) rfl rfl rfl dX4_init_7 (fun H w => ?_)
  refine n_putF F w (a := 32) (C := RX4) (T := TX4) (N := 1) (ci := 4) (k := 0) (x := .ref (B + 33)) (ty := .array .int) (fs1 := [.ref (B + 33)]) tyX4 tyX4_ok nmX4 (by decide) ((up_ne (by decide)).trans h0) rfl rfl inT4 (by decide) rfl tb_49 rfl hin rfl (by decide +kernel) rfl rfl (Nat.le_of_ble_eq_true rfl) dX4_init_9 (fun H locs w => ?_)
  exact n_end F w hr hlocks dX4_init_12
set_option maxRecDepth 8000 in
theorem n_X4_init_16 {l : Launch} {D : va_G} {B : Nat} {cy : Nat → ClassId} {E : Nat → va_E} (h0 : E 34 = .inr (4, [.null])) : Cn l D B cy yX4_init cX4_init 1 1 12 1 8 [.ref (B + 34)] 35 E 36 (va_up (va_up E 35 (.inl (cy 2, 8, .inl (fun _ => 0)))) 34 (.inr (4, [.ref (B + 35)]))) := by
  refine n_start (by decide) (Nat.le_of_ble_eq_true rfl) rfl ?_
  intro p e s m below meth c ls F hr hlocks hin w hl
  have F : CallFix p m c cX4_init 1 s _ TB RX4 := F
  have hx := F.1
  have hb := F.2.1
  have hl : lv_has ls 1 [(0, .ref (B + 34))] := hl
  refine lv_aload_n hx hb dX4_init_0 rfl (lv_at hl 0 rfl) ?_
  refine n_obj F hl.1 tb_740 tb_723 tk_obj dX4_init_1 (Nat.le_of_ble_eq_true rfl) (Nat.le_of_ble_eq_true rfl) ?_
  refine lv_aload_n hx hb dX4_init_4 rfl (lv_at hl 0 rfl) ?_
  refine lv_bipush (v := 8) hx hb dX4_init_5 (by decide) ?_
  refine n_newa F w (atype := .int) (ty := .int) (t := 2) (N := 8) (cA := cy 2) (a0 := (8, .inl (fun _ => 0))) tb_741 rfl (fun _ h => h) rfl (fun _ => rfl) (by decide) (by decide) (Nat.le_of_ble_eq_true rfl) (Nat.le_of_ble_eq_true rfl) (Nat.le_of_ble_eq_true rfl) (c1 := 1) (s1 := 8) (n1 := 36) rfl rfl rfl dX4_init_7 (fun H w => ?_)
  refine n_putF F w (a := 34) (C := RX4) (T := TX4) (N := 1) (ci := 4) (k := 0) (x := .ref (B + 35)) (ty := .array .int) (fs1 := [.ref (B + 35)]) tyX4 tyX4_ok nmX4 (by decide) ((up_ne (by decide)).trans h0) rfl rfl inT4 (by decide) rfl tb_49 rfl hin rfl (by decide +kernel) rfl rfl (Nat.le_of_ble_eq_true rfl) dX4_init_9 (fun H locs w => ?_)
  exact n_end F w hr hlocks dX4_init_12
set_option maxRecDepth 8000 in
theorem n_X4_init_17 {l : Launch} {D : va_G} {B : Nat} {cy : Nat → ClassId} {E : Nat → va_E} (h0 : E 36 = .inr (4, [.null])) : Cn l D B cy yX4_init cX4_init 1 1 12 1 8 [.ref (B + 36)] 37 E 38 (va_up (va_up E 37 (.inl (cy 2, 8, .inl (fun _ => 0)))) 36 (.inr (4, [.ref (B + 37)]))) := by
  refine n_start (by decide) (Nat.le_of_ble_eq_true rfl) rfl ?_
  intro p e s m below meth c ls F hr hlocks hin w hl
  have F : CallFix p m c cX4_init 1 s _ TB RX4 := F
  have hx := F.1
  have hb := F.2.1
  have hl : lv_has ls 1 [(0, .ref (B + 36))] := hl
  refine lv_aload_n hx hb dX4_init_0 rfl (lv_at hl 0 rfl) ?_
  refine n_obj F hl.1 tb_740 tb_723 tk_obj dX4_init_1 (Nat.le_of_ble_eq_true rfl) (Nat.le_of_ble_eq_true rfl) ?_
  refine lv_aload_n hx hb dX4_init_4 rfl (lv_at hl 0 rfl) ?_
  refine lv_bipush (v := 8) hx hb dX4_init_5 (by decide) ?_
  refine n_newa F w (atype := .int) (ty := .int) (t := 2) (N := 8) (cA := cy 2) (a0 := (8, .inl (fun _ => 0))) tb_741 rfl (fun _ h => h) rfl (fun _ => rfl) (by decide) (by decide) (Nat.le_of_ble_eq_true rfl) (Nat.le_of_ble_eq_true rfl) (Nat.le_of_ble_eq_true rfl) (c1 := 1) (s1 := 8) (n1 := 38) rfl rfl rfl dX4_init_7 (fun H w => ?_)
  refine n_putF F w (a := 36) (C := RX4) (T := TX4) (N := 1) (ci := 4) (k := 0) (x := .ref (B + 37)) (ty := .array .int) (fs1 := [.ref (B + 37)]) tyX4 tyX4_ok nmX4 (by decide) ((up_ne (by decide)).trans h0) rfl rfl inT4 (by decide) rfl tb_49 rfl hin rfl (by decide +kernel) rfl rfl (Nat.le_of_ble_eq_true rfl) dX4_init_9 (fun H locs w => ?_)
  exact n_end F w hr hlocks dX4_init_12
set_option maxRecDepth 8000 in
theorem n_X4_init_18 {l : Launch} {D : va_G} {B : Nat} {cy : Nat → ClassId} {E : Nat → va_E} (h0 : E 38 = .inr (4, [.null])) : Cn l D B cy yX4_init cX4_init 1 1 12 1 8 [.ref (B + 38)] 39 E 40 (va_up (va_up E 39 (.inl (cy 2, 8, .inl (fun _ => 0)))) 38 (.inr (4, [.ref (B + 39)]))) := by
  refine n_start (by decide) (Nat.le_of_ble_eq_true rfl) rfl ?_
  intro p e s m below meth c ls F hr hlocks hin w hl
  have F : CallFix p m c cX4_init 1 s _ TB RX4 := F
  have hx := F.1
  have hb := F.2.1
  have hl : lv_has ls 1 [(0, .ref (B + 38))] := hl
  refine lv_aload_n hx hb dX4_init_0 rfl (lv_at hl 0 rfl) ?_
  refine n_obj F hl.1 tb_740 tb_723 tk_obj dX4_init_1 (Nat.le_of_ble_eq_true rfl) (Nat.le_of_ble_eq_true rfl) ?_
  refine lv_aload_n hx hb dX4_init_4 rfl (lv_at hl 0 rfl) ?_
  refine lv_bipush (v := 8) hx hb dX4_init_5 (by decide) ?_
  refine n_newa F w (atype := .int) (ty := .int) (t := 2) (N := 8) (cA := cy 2) (a0 := (8, .inl (fun _ => 0))) tb_741 rfl (fun _ h => h) rfl (fun _ => rfl) (by decide) (by decide) (Nat.le_of_ble_eq_true rfl) (Nat.le_of_ble_eq_true rfl) (Nat.le_of_ble_eq_true rfl) (c1 := 1) (s1 := 8) (n1 := 40) rfl rfl rfl dX4_init_7 (fun H w => ?_)
  refine n_putF F w (a := 38) (C := RX4) (T := TX4) (N := 1) (ci := 4) (k := 0) (x := .ref (B + 39)) (ty := .array .int) (fs1 := [.ref (B + 39)]) tyX4 tyX4_ok nmX4 (by decide) ((up_ne (by decide)).trans h0) rfl rfl inT4 (by decide) rfl tb_49 rfl hin rfl (by decide +kernel) rfl rfl (Nat.le_of_ble_eq_true rfl) dX4_init_9 (fun H locs w => ?_)
  exact n_end F w hr hlocks dX4_init_12
set_option maxRecDepth 8000 in
theorem n_X4_init_19 {l : Launch} {D : va_G} {B : Nat} {cy : Nat → ClassId} {E : Nat → va_E} (h0 : E 40 = .inr (4, [.null])) : Cn l D B cy yX4_init cX4_init 1 1 12 1 8 [.ref (B + 40)] 41 E 42 (va_up (va_up E 41 (.inl (cy 2, 8, .inl (fun _ => 0)))) 40 (.inr (4, [.ref (B + 41)]))) := by
  refine n_start (by decide) (Nat.le_of_ble_eq_true rfl) rfl ?_
  intro p e s m below meth c ls F hr hlocks hin w hl
  have F : CallFix p m c cX4_init 1 s _ TB RX4 := F
  have hx := F.1
  have hb := F.2.1
  have hl : lv_has ls 1 [(0, .ref (B + 40))] := hl
  refine lv_aload_n hx hb dX4_init_0 rfl (lv_at hl 0 rfl) ?_
  refine n_obj F hl.1 tb_740 tb_723 tk_obj dX4_init_1 (Nat.le_of_ble_eq_true rfl) (Nat.le_of_ble_eq_true rfl) ?_
  refine lv_aload_n hx hb dX4_init_4 rfl (lv_at hl 0 rfl) ?_
  refine lv_bipush (v := 8) hx hb dX4_init_5 (by decide) ?_
  refine n_newa F w (atype := .int) (ty := .int) (t := 2) (N := 8) (cA := cy 2) (a0 := (8, .inl (fun _ => 0))) tb_741 rfl (fun _ h => h) rfl (fun _ => rfl) (by decide) (by decide) (Nat.le_of_ble_eq_true rfl) (Nat.le_of_ble_eq_true rfl) (Nat.le_of_ble_eq_true rfl) (c1 := 1) (s1 := 8) (n1 := 42) rfl rfl rfl dX4_init_7 (fun H w => ?_)
  refine n_putF F w (a := 40) (C := RX4) (T := TX4) (N := 1) (ci := 4) (k := 0) (x := .ref (B + 41)) (ty := .array .int) (fs1 := [.ref (B + 41)]) tyX4 tyX4_ok nmX4 (by decide) ((up_ne (by decide)).trans h0) rfl rfl inT4 (by decide) rfl tb_49 rfl hin rfl (by decide +kernel) rfl rfl (Nat.le_of_ble_eq_true rfl) dX4_init_9 (fun H locs w => ?_)
  exact n_end F w hr hlocks dX4_init_12
set_option maxRecDepth 8000 in
theorem n_X4_init_20 {l : Launch} {D : va_G} {B : Nat} {cy : Nat → ClassId} {E : Nat → va_E} (h0 : E 42 = .inr (4, [.null])) : Cn l D B cy yX4_init cX4_init 1 1 12 1 8 [.ref (B + 42)] 43 E 44 (va_up (va_up E 43 (.inl (cy 2, 8, .inl (fun _ => 0)))) 42 (.inr (4, [.ref (B + 43)]))) := by
  refine n_start (by decide) (Nat.le_of_ble_eq_true rfl) rfl ?_
  intro p e s m below meth c ls F hr hlocks hin w hl
  have F : CallFix p m c cX4_init 1 s _ TB RX4 := F
  have hx := F.1
  have hb := F.2.1
  have hl : lv_has ls 1 [(0, .ref (B + 42))] := hl
  refine lv_aload_n hx hb dX4_init_0 rfl (lv_at hl 0 rfl) ?_
  refine n_obj F hl.1 tb_740 tb_723 tk_obj dX4_init_1 (Nat.le_of_ble_eq_true rfl) (Nat.le_of_ble_eq_true rfl) ?_
  refine lv_aload_n hx hb dX4_init_4 rfl (lv_at hl 0 rfl) ?_
  refine lv_bipush (v := 8) hx hb dX4_init_5 (by decide) ?_
  refine n_newa F w (atype := .int) (ty := .int) (t := 2) (N := 8) (cA := cy 2) (a0 := (8, .inl (fun _ => 0))) tb_741 rfl (fun _ h => h) rfl (fun _ => rfl) (by decide) (by decide) (Nat.le_of_ble_eq_true rfl) (Nat.le_of_ble_eq_true rfl) (Nat.le_of_ble_eq_true rfl) (c1 := 1) (s1 := 8) (n1 := 44) rfl rfl rfl dX4_init_7 (fun H w => ?_)
  refine n_putF F w (a := 42) (C := RX4) (T := TX4) (N := 1) (ci := 4) (k := 0) (x := .ref (B + 43)) (ty := .array .int) (fs1 := [.ref (B + 43)]) tyX4 tyX4_ok nmX4 (by decide) ((up_ne (by decide)).trans h0) rfl rfl inT4 (by decide) rfl tb_49 rfl hin rfl (by decide +kernel) rfl rfl (Nat.le_of_ble_eq_true rfl) dX4_init_9 (fun H locs w => ?_)
  exact n_end F w hr hlocks dX4_init_12
theorem dX0_init_86 : decode cX0_init 86 = .ok (.iconst 0, 1) := dq0 kk_3 (by decide +kernel)
theorem dX0_init_87 : decode cX0_init 87 = .ok (.istore_n 1, 1) := dq0 kk_60 (by decide +kernel)
theorem dX0_init_88 : decode cX0_init 88 = .ok (.iload_n 1, 1) := dq0 kk_27 (by decide +kernel)
theorem dX0_init_89 : decode cX0_init 89 = .ok (.bipush 8, 2) := dqS kk_16 (by decide +kernel)
theorem dX0_init_91 : decode cX0_init 91 = .ok (.if_icmp .gt 22, 3) := dqT kk_163 (by decide +kernel)
theorem dX0_init_94 : decode cX0_init 94 = .ok (.aload_n 0, 1) := dq0 kk_42 (by decide +kernel)
theorem dX0_init_95 : decode cX0_init 95 = .ok (.getfield 30, 3) := dqV kk_180 (by decide +kernel)
theorem dX0_init_98 : decode cX0_init 98 = .ok (.iload_n 1, 1) := dq0 kk_27 (by decide +kernel)
theorem dX0_init_99 : decode cX0_init 99 = .ok (.new 28, 3) := dqV kk_187 (by decide +kernel)
theorem tb_754 : Cond.instantiable "ToneLines$Word" 6 ∈ TB := tbm (tc1 (List.mem_of_getElem? (i := 124) rfl)) rfl
theorem dX0_init_102 : decode cX0_init 102 = .ok (.dup, 1) := dq0 kk_89 (by decide +kernel)
theorem dX0_init_103 : decode cX0_init 103 = .ok (.invokespecial 45, 3) := dqV kk_183 (by decide +kernel)
theorem dX9_init_0 : decode cX9_init 0 = .ok (.aload_n 0, 1) := dq0 kk_42 (by decide +kernel)
theorem dX9_init_1 : decode cX9_init 1 = .ok (.invokespecial 3, 3) := dqV kk_183 (by decide +kernel)
theorem tb_755 : Cond.methodLink "ToneLines$Word" 3 ⟨"java/lang/Object", "<init>", "()V"⟩ ∈ TB := tbm (tc1 (List.mem_of_getElem? (i := 128) rfl)) rfl
theorem dX9_init_4 : decode cX9_init 4 = .ok (.aload_n 0, 1) := dq0 kk_42 (by decide +kernel)
theorem dX9_init_5 : decode cX9_init 5 = .ok (.iconst 0, 1) := dq0 kk_3 (by decide +kernel)
theorem dX9_init_6 : decode cX9_init 6 = .ok (.putfield 9, 3) := dqV kk_181 (by decide +kernel)
theorem dX9_init_9 : decode cX9_init 9 = .ok (.aload_n 0, 1) := dq0 kk_42 (by decide +kernel)
theorem dX9_init_10 : decode cX9_init 10 = .ok (.iconst 0, 1) := dq0 kk_3 (by decide +kernel)
theorem dX9_init_11 : decode cX9_init 11 = .ok (.putfield 15, 3) := dqV kk_181 (by decide +kernel)
theorem dX9_init_14 : decode cX9_init 14 = .ok (.aload_n 0, 1) := dq0 kk_42 (by decide +kernel)
theorem dX9_init_15 : decode cX9_init 15 = .ok (.iconst 0, 1) := dq0 kk_3 (by decide +kernel)
theorem dX9_init_16 : decode cX9_init 16 = .ok (.putfield 18, 3) := dqV kk_181 (by decide +kernel)
theorem dX9_init_19 : decode cX9_init 19 = .ok (.aload_n 0, 1) := dq0 kk_42 (by decide +kernel)
theorem dX9_init_20 : decode cX9_init 20 = .ok (.iconst 0, 1) := dq0 kk_3 (by decide +kernel)
theorem dX9_init_21 : decode cX9_init 21 = .ok (.putfield 21, 3) := dqV kk_181 (by decide +kernel)
theorem dX9_init_24 : decode cX9_init 24 = .ok (.aload_n 0, 1) := dq0 kk_42 (by decide +kernel)
theorem dX9_init_25 : decode cX9_init 25 = .ok (.bipush 12, 2) := dqS kk_16 (by decide +kernel)
theorem dX9_init_27 : decode cX9_init 27 = .ok (.newarray .int, 2) := by decide +kernel
theorem dX9_init_29 : decode cX9_init 29 = .ok (.putfield 24, 3) := dqV kk_181 (by decide +kernel)
theorem dX9_init_32 : decode cX9_init 32 = .ok (.aload_n 0, 1) := dq0 kk_42 (by decide +kernel)
theorem dX9_init_33 : decode cX9_init 33 = .ok (.bipush 12, 2) := dqS kk_16 (by decide +kernel)
theorem dX9_init_35 : decode cX9_init 35 = .ok (.newarray .int, 2) := by decide +kernel
theorem dX9_init_37 : decode cX9_init 37 = .ok (.putfield 28, 3) := dqV kk_181 (by decide +kernel)
theorem dX9_init_40 : decode cX9_init 40 = .ok (.return_, 1) := dq0 kk_177 (by decide +kernel)
set_option maxRecDepth 8000 in
theorem n_X9_init_21 {l : Launch} {D : va_G} {B : Nat} {cy : Nat → ClassId} {E : Nat → va_E} (h0 : E 44 = .inr (9, [.int 0, .int 0, .int 0, .int 0, .null, .null])) : Cn l D B cy yX9_init cX9_init 1 1 12 2 24 [.ref (B + 44)] 45 E 47 (va_up (va_up (va_up (va_up E 45 (.inl (cy 2, 12, .inl (fun _ => 0)))) 44 (.inr (9, [.int 0, .int 0, .int 0, .int 0, .ref (B + 45), .null]))) 46 (.inl (cy 2, 12, .inl (fun _ => 0)))) 44 (.inr (9, [.int 0, .int 0, .int 0, .int 0, .ref (B + 45), .ref (B + 46)]))) := by
  refine n_start (by decide) (Nat.le_of_ble_eq_true rfl) rfl ?_
  intro p e s m below meth c ls F hr hlocks hin w hl
  have F : CallFix p m c cX9_init 1 s _ TB RX9 := F
  have hx := F.1
  have hb := F.2.1
  have hl : lv_has ls 1 [(0, .ref (B + 44))] := hl
  refine lv_aload_n hx hb dX9_init_0 rfl (lv_at hl 0 rfl) ?_
  refine n_obj F hl.1 tb_755 tb_723 tk_obj dX9_init_1 (Nat.le_of_ble_eq_true rfl) (Nat.le_of_ble_eq_true rfl) ?_
  refine lv_aload_n hx hb dX9_init_4 rfl (lv_at hl 0 rfl) ?_
  refine lv_iconst (v := 0) hx hb dX9_init_5 (by decide) ?_
  refine n_put F w (a := 44) (C := RX9) (T := TX9) (N := 6) (ci := 9) (k := 0) (x := .int 0) (ty := .int) (fs1 := [.int 0, .int 0, .int 0, .int 0, .null, .null]) tyX9 tyX9_ok nmX9 (by decide) (h0) rfl rfl inT9 (by decide) rfl tb_0 rfl (by decide +kernel) rfl rfl (Nat.le_of_ble_eq_true rfl) dX9_init_6 (fun H locs w => ?_)
  rw [up_same (h0)] at w
  refine lv_aload_n hx hb dX9_init_9 rfl (lv_at hl 0 rfl) ?_
  refine lv_iconst (v := 0) hx hb dX9_init_10 (by decide) ?_
  refine n_put F w (a := 44) (C := RX9) (T := TX9) (N := 6) (ci := 9) (k := 1) (x := .int 0) (ty := .int) (fs1 := [.int 0, .int 0, .int 0, .int 0, .null, .null]) tyX9 tyX9_ok nmX9 (by decide) (h0) rfl rfl inT9 (by decide) rfl tb_1 rfl (by decide +kernel) rfl rfl (Nat.le_of_ble_eq_true rfl) dX9_init_11 (fun H locs w => ?_)
  rw [up_same (h0)] at w
  refine lv_aload_n hx hb dX9_init_14 rfl (lv_at hl 0 rfl) ?_
  refine lv_iconst (v := 0) hx hb dX9_init_15 (by decide) ?_
  refine n_put F w (a := 44) (C := RX9) (T := TX9) (N := 6) (ci := 9) (k := 2) (x := .int 0) (ty := .int) (fs1 := [.int 0, .int 0, .int 0, .int 0, .null, .null]) tyX9 tyX9_ok nmX9 (by decide) (h0) rfl rfl inT9 (by decide) rfl tb_11 rfl (by decide +kernel) rfl rfl (Nat.le_of_ble_eq_true rfl) dX9_init_16 (fun H locs w => ?_)
  rw [up_same (h0)] at w
  refine lv_aload_n hx hb dX9_init_19 rfl (lv_at hl 0 rfl) ?_
  refine lv_iconst (v := 0) hx hb dX9_init_20 (by decide) ?_
  refine n_put F w (a := 44) (C := RX9) (T := TX9) (N := 6) (ci := 9) (k := 3) (x := .int 0) (ty := .int) (fs1 := [.int 0, .int 0, .int 0, .int 0, .null, .null]) tyX9 tyX9_ok nmX9 (by decide) (h0) rfl rfl inT9 (by decide) rfl tb_12 rfl (by decide +kernel) rfl rfl (Nat.le_of_ble_eq_true rfl) dX9_init_21 (fun H locs w => ?_)
  rw [up_same (h0)] at w
  refine lv_aload_n hx hb dX9_init_24 rfl (lv_at hl 0 rfl) ?_
  refine lv_bipush (v := 12) hx hb dX9_init_25 (by decide) ?_
  refine n_newa F w (atype := .int) (ty := .int) (t := 2) (N := 12) (cA := cy 2) (a0 := (12, .inl (fun _ => 0))) tb_741 rfl (fun _ h => h) rfl (fun _ => rfl) (by decide) (by decide) (Nat.le_of_ble_eq_true rfl) (Nat.le_of_ble_eq_true rfl) (Nat.le_of_ble_eq_true rfl) (c1 := 1) (s1 := 12) (n1 := 46) rfl rfl rfl dX9_init_27 (fun H w => ?_)
  refine n_putF F w (a := 44) (C := RX9) (T := TX9) (N := 6) (ci := 9) (k := 4) (x := .ref (B + 45)) (ty := .array .int) (fs1 := [.int 0, .int 0, .int 0, .int 0, .ref (B + 45), .null]) tyX9 tyX9_ok nmX9 (by decide) ((up_ne (by decide)).trans h0) rfl rfl inT9 (by decide) rfl tb_7 rfl hin rfl (by decide +kernel) rfl rfl (Nat.le_of_ble_eq_true rfl) dX9_init_29 (fun H locs w => ?_)
  refine lv_aload_n hx hb dX9_init_32 rfl (lv_at hl 0 rfl) ?_
  refine lv_bipush (v := 12) hx hb dX9_init_33 (by decide) ?_
  refine n_newa F w (atype := .int) (ty := .int) (t := 2) (N := 12) (cA := cy 2) (a0 := (12, .inl (fun _ => 0))) tb_741 rfl (fun _ h => h) rfl (fun _ => rfl) (by decide) (by decide) (Nat.le_of_ble_eq_true rfl) (Nat.le_of_ble_eq_true rfl) (Nat.le_of_ble_eq_true rfl) (c1 := 2) (s1 := 24) (n1 := 47) rfl rfl rfl dX9_init_35 (fun H w => ?_)
  refine n_putF F w (a := 44) (C := RX9) (T := TX9) (N := 6) (ci := 9) (k := 5) (x := .ref (B + 46)) (ty := .array .int) (fs1 := [.int 0, .int 0, .int 0, .int 0, .ref (B + 45), .ref (B + 46)]) tyX9 tyX9_ok nmX9 (by decide) ((up_ne (by decide)).trans up_at) rfl rfl inT9 (by decide) rfl tb_6 rfl hin rfl (by decide +kernel) rfl rfl (Nat.le_of_ble_eq_true rfl) dX9_init_37 (fun H locs w => ?_)
  exact n_end F w hr hlocks dX9_init_40
theorem tk_X9_init : Cond.code yX9_init cX9_init 1 none ∈ TB := tbm (tc1 (List.mem_of_getElem? (i := 127) rfl)) rfl
theorem gc_X9_init : GoodIn TB (cw yX9_init cX9_init 1 none) := goodIn_c2 tk_X9_init
theorem hs_X9_init : yX9_init.cls ≠ "java/lang/invoke/MethodHandle" ∧ yX9_init.cls ≠ "java/lang/invoke/VarHandle" ∧ (parseMethodDescriptor yX9_init.desc).map (fun d => d.parameters.length) = some 0 := by decide +kernel
theorem tb_756 : Cond.instanceMethod yX9_init ∈ TB := tbm (tc1 (List.mem_of_getElem? (i := 126) rfl)) rfl
theorem dX0_init_106 : decode cX0_init 106 = .ok (.aastore, 1) := dq0 kk_83 (by decide +kernel)
theorem dX0_init_107 : decode cX0_init 107 = .ok (.iinc 1 1, 3) := dqI kk_132 (by decide +kernel)
theorem dX0_init_110 : decode cX0_init 110 = .ok (.goto (-22), 3) := dqT kk_167 (by decide +kernel)
set_option maxRecDepth 8000 in
theorem n_X9_init_22 {l : Launch} {D : va_G} {B : Nat} {cy : Nat → ClassId} {E : Nat → va_E} (h0 : E 47 = .inr (9, [.int 0, .int 0, .int 0, .int 0, .null, .null])) : Cn l D B cy yX9_init cX9_init 1 1 12 2 24 [.ref (B + 47)] 48 E 50 (va_up (va_up (va_up (va_up E 48 (.inl (cy 2, 12, .inl (fun _ => 0)))) 47 (.inr (9, [.int 0, .int 0, .int 0, .int 0, .ref (B + 48), .null]))) 49 (.inl (cy 2, 12, .inl (fun _ => 0)))) 47 (.inr (9, [.int 0, .int 0, .int 0, .int 0, .ref (B + 48), .ref (B + 49)]))) := by
  refine n_start (by decide) (Nat.le_of_ble_eq_true rfl) rfl ?_
  intro p e s m below meth c ls F hr hlocks hin w hl
  have F : CallFix p m c cX9_init 1 s _ TB RX9 := F
  have hx := F.1
  have hb := F.2.1
  have hl : lv_has ls 1 [(0, .ref (B + 47))] := hl
  refine lv_aload_n hx hb dX9_init_0 rfl (lv_at hl 0 rfl) ?_
  refine n_obj F hl.1 tb_755 tb_723 tk_obj dX9_init_1 (Nat.le_of_ble_eq_true rfl) (Nat.le_of_ble_eq_true rfl) ?_
  refine lv_aload_n hx hb dX9_init_4 rfl (lv_at hl 0 rfl) ?_
  refine lv_iconst (v := 0) hx hb dX9_init_5 (by decide) ?_
  refine n_put F w (a := 47) (C := RX9) (T := TX9) (N := 6) (ci := 9) (k := 0) (x := .int 0) (ty := .int) (fs1 := [.int 0, .int 0, .int 0, .int 0, .null, .null]) tyX9 tyX9_ok nmX9 (by decide) (h0) rfl rfl inT9 (by decide) rfl tb_0 rfl (by decide +kernel) rfl rfl (Nat.le_of_ble_eq_true rfl) dX9_init_6 (fun H locs w => ?_)
  rw [up_same (h0)] at w
  refine lv_aload_n hx hb dX9_init_9 rfl (lv_at hl 0 rfl) ?_
  refine lv_iconst (v := 0) hx hb dX9_init_10 (by decide) ?_
  refine n_put F w (a := 47) (C := RX9) (T := TX9) (N := 6) (ci := 9) (k := 1) (x := .int 0) (ty := .int) (fs1 := [.int 0, .int 0, .int 0, .int 0, .null, .null]) tyX9 tyX9_ok nmX9 (by decide) (h0) rfl rfl inT9 (by decide) rfl tb_1 rfl (by decide +kernel) rfl rfl (Nat.le_of_ble_eq_true rfl) dX9_init_11 (fun H locs w => ?_)
  rw [up_same (h0)] at w
  refine lv_aload_n hx hb dX9_init_14 rfl (lv_at hl 0 rfl) ?_
  refine lv_iconst (v := 0) hx hb dX9_init_15 (by decide) ?_
  refine n_put F w (a := 47) (C := RX9) (T := TX9) (N := 6) (ci := 9) (k := 2) (x := .int 0) (ty := .int) (fs1 := [.int 0, .int 0, .int 0, .int 0, .null, .null]) tyX9 tyX9_ok nmX9 (by decide) (h0) rfl rfl inT9 (by decide) rfl tb_11 rfl (by decide +kernel) rfl rfl (Nat.le_of_ble_eq_true rfl) dX9_init_16 (fun H locs w => ?_)
  rw [up_same (h0)] at w
  refine lv_aload_n hx hb dX9_init_19 rfl (lv_at hl 0 rfl) ?_
  refine lv_iconst (v := 0) hx hb dX9_init_20 (by decide) ?_
  refine n_put F w (a := 47) (C := RX9) (T := TX9) (N := 6) (ci := 9) (k := 3) (x := .int 0) (ty := .int) (fs1 := [.int 0, .int 0, .int 0, .int 0, .null, .null]) tyX9 tyX9_ok nmX9 (by decide) (h0) rfl rfl inT9 (by decide) rfl tb_12 rfl (by decide +kernel) rfl rfl (Nat.le_of_ble_eq_true rfl) dX9_init_21 (fun H locs w => ?_)
  rw [up_same (h0)] at w
  refine lv_aload_n hx hb dX9_init_24 rfl (lv_at hl 0 rfl) ?_
  refine lv_bipush (v := 12) hx hb dX9_init_25 (by decide) ?_
  refine n_newa F w (atype := .int) (ty := .int) (t := 2) (N := 12) (cA := cy 2) (a0 := (12, .inl (fun _ => 0))) tb_741 rfl (fun _ h => h) rfl (fun _ => rfl) (by decide) (by decide) (Nat.le_of_ble_eq_true rfl) (Nat.le_of_ble_eq_true rfl) (Nat.le_of_ble_eq_true rfl) (c1 := 1) (s1 := 12) (n1 := 49) rfl rfl rfl dX9_init_27 (fun H w => ?_)
  refine n_putF F w (a := 47) (C := RX9) (T := TX9) (N := 6) (ci := 9) (k := 4) (x := .ref (B + 48)) (ty := .array .int) (fs1 := [.int 0, .int 0, .int 0, .int 0, .ref (B + 48), .null]) tyX9 tyX9_ok nmX9 (by decide) ((up_ne (by decide)).trans h0) rfl rfl inT9 (by decide) rfl tb_7 rfl hin rfl (by decide +kernel) rfl rfl (Nat.le_of_ble_eq_true rfl) dX9_init_29 (fun H locs w => ?_)
  refine lv_aload_n hx hb dX9_init_32 rfl (lv_at hl 0 rfl) ?_
  refine lv_bipush (v := 12) hx hb dX9_init_33 (by decide) ?_
  refine n_newa F w (atype := .int) (ty := .int) (t := 2) (N := 12) (cA := cy 2) (a0 := (12, .inl (fun _ => 0))) tb_741 rfl (fun _ h => h) rfl (fun _ => rfl) (by decide) (by decide) (Nat.le_of_ble_eq_true rfl) (Nat.le_of_ble_eq_true rfl) (Nat.le_of_ble_eq_true rfl) (c1 := 2) (s1 := 24) (n1 := 50) rfl rfl rfl dX9_init_35 (fun H w => ?_)
  refine n_putF F w (a := 47) (C := RX9) (T := TX9) (N := 6) (ci := 9) (k := 5) (x := .ref (B + 49)) (ty := .array .int) (fs1 := [.int 0, .int 0, .int 0, .int 0, .ref (B + 48), .ref (B + 49)]) tyX9 tyX9_ok nmX9 (by decide) ((up_ne (by decide)).trans up_at) rfl rfl inT9 (by decide) rfl tb_6 rfl hin rfl (by decide +kernel) rfl rfl (Nat.le_of_ble_eq_true rfl) dX9_init_37 (fun H locs w => ?_)
  exact n_end F w hr hlocks dX9_init_40
set_option maxRecDepth 8000 in
theorem n_X9_init_23 {l : Launch} {D : va_G} {B : Nat} {cy : Nat → ClassId} {E : Nat → va_E} (h0 : E 50 = .inr (9, [.int 0, .int 0, .int 0, .int 0, .null, .null])) : Cn l D B cy yX9_init cX9_init 1 1 12 2 24 [.ref (B + 50)] 51 E 53 (va_up (va_up (va_up (va_up E 51 (.inl (cy 2, 12, .inl (fun _ => 0)))) 50 (.inr (9, [.int 0, .int 0, .int 0, .int 0, .ref (B + 51), .null]))) 52 (.inl (cy 2, 12, .inl (fun _ => 0)))) 50 (.inr (9, [.int 0, .int 0, .int 0, .int 0, .ref (B + 51), .ref (B + 52)]))) := by
  refine n_start (by decide) (Nat.le_of_ble_eq_true rfl) rfl ?_
  intro p e s m below meth c ls F hr hlocks hin w hl
  have F : CallFix p m c cX9_init 1 s _ TB RX9 := F
  have hx := F.1
  have hb := F.2.1
  have hl : lv_has ls 1 [(0, .ref (B + 50))] := hl
  refine lv_aload_n hx hb dX9_init_0 rfl (lv_at hl 0 rfl) ?_
  refine n_obj F hl.1 tb_755 tb_723 tk_obj dX9_init_1 (Nat.le_of_ble_eq_true rfl) (Nat.le_of_ble_eq_true rfl) ?_
  refine lv_aload_n hx hb dX9_init_4 rfl (lv_at hl 0 rfl) ?_
  refine lv_iconst (v := 0) hx hb dX9_init_5 (by decide) ?_
  refine n_put F w (a := 50) (C := RX9) (T := TX9) (N := 6) (ci := 9) (k := 0) (x := .int 0) (ty := .int) (fs1 := [.int 0, .int 0, .int 0, .int 0, .null, .null]) tyX9 tyX9_ok nmX9 (by decide) (h0) rfl rfl inT9 (by decide) rfl tb_0 rfl (by decide +kernel) rfl rfl (Nat.le_of_ble_eq_true rfl) dX9_init_6 (fun H locs w => ?_)
  rw [up_same (h0)] at w
  refine lv_aload_n hx hb dX9_init_9 rfl (lv_at hl 0 rfl) ?_
  refine lv_iconst (v := 0) hx hb dX9_init_10 (by decide) ?_
  refine n_put F w (a := 50) (C := RX9) (T := TX9) (N := 6) (ci := 9) (k := 1) (x := .int 0) (ty := .int) (fs1 := [.int 0, .int 0, .int 0, .int 0, .null, .null]) tyX9 tyX9_ok nmX9 (by decide) (h0) rfl rfl inT9 (by decide) rfl tb_1 rfl (by decide +kernel) rfl rfl (Nat.le_of_ble_eq_true rfl) dX9_init_11 (fun H locs w => ?_)
  rw [up_same (h0)] at w
  refine lv_aload_n hx hb dX9_init_14 rfl (lv_at hl 0 rfl) ?_
  refine lv_iconst (v := 0) hx hb dX9_init_15 (by decide) ?_
  refine n_put F w (a := 50) (C := RX9) (T := TX9) (N := 6) (ci := 9) (k := 2) (x := .int 0) (ty := .int) (fs1 := [.int 0, .int 0, .int 0, .int 0, .null, .null]) tyX9 tyX9_ok nmX9 (by decide) (h0) rfl rfl inT9 (by decide) rfl tb_11 rfl (by decide +kernel) rfl rfl (Nat.le_of_ble_eq_true rfl) dX9_init_16 (fun H locs w => ?_)
  rw [up_same (h0)] at w
  refine lv_aload_n hx hb dX9_init_19 rfl (lv_at hl 0 rfl) ?_
  refine lv_iconst (v := 0) hx hb dX9_init_20 (by decide) ?_
  refine n_put F w (a := 50) (C := RX9) (T := TX9) (N := 6) (ci := 9) (k := 3) (x := .int 0) (ty := .int) (fs1 := [.int 0, .int 0, .int 0, .int 0, .null, .null]) tyX9 tyX9_ok nmX9 (by decide) (h0) rfl rfl inT9 (by decide) rfl tb_12 rfl (by decide +kernel) rfl rfl (Nat.le_of_ble_eq_true rfl) dX9_init_21 (fun H locs w => ?_)
  rw [up_same (h0)] at w
  refine lv_aload_n hx hb dX9_init_24 rfl (lv_at hl 0 rfl) ?_
  refine lv_bipush (v := 12) hx hb dX9_init_25 (by decide) ?_
  refine n_newa F w (atype := .int) (ty := .int) (t := 2) (N := 12) (cA := cy 2) (a0 := (12, .inl (fun _ => 0))) tb_741 rfl (fun _ h => h) rfl (fun _ => rfl) (by decide) (by decide) (Nat.le_of_ble_eq_true rfl) (Nat.le_of_ble_eq_true rfl) (Nat.le_of_ble_eq_true rfl) (c1 := 1) (s1 := 12) (n1 := 52) rfl rfl rfl dX9_init_27 (fun H w => ?_)
  refine n_putF F w (a := 50) (C := RX9) (T := TX9) (N := 6) (ci := 9) (k := 4) (x := .ref (B + 51)) (ty := .array .int) (fs1 := [.int 0, .int 0, .int 0, .int 0, .ref (B + 51), .null]) tyX9 tyX9_ok nmX9 (by decide) ((up_ne (by decide)).trans h0) rfl rfl inT9 (by decide) rfl tb_7 rfl hin rfl (by decide +kernel) rfl rfl (Nat.le_of_ble_eq_true rfl) dX9_init_29 (fun H locs w => ?_)
  refine lv_aload_n hx hb dX9_init_32 rfl (lv_at hl 0 rfl) ?_
  refine lv_bipush (v := 12) hx hb dX9_init_33 (by decide) ?_
  refine n_newa F w (atype := .int) (ty := .int) (t := 2) (N := 12) (cA := cy 2) (a0 := (12, .inl (fun _ => 0))) tb_741 rfl (fun _ h => h) rfl (fun _ => rfl) (by decide) (by decide) (Nat.le_of_ble_eq_true rfl) (Nat.le_of_ble_eq_true rfl) (Nat.le_of_ble_eq_true rfl) (c1 := 2) (s1 := 24) (n1 := 53) rfl rfl rfl dX9_init_35 (fun H w => ?_)
  refine n_putF F w (a := 50) (C := RX9) (T := TX9) (N := 6) (ci := 9) (k := 5) (x := .ref (B + 52)) (ty := .array .int) (fs1 := [.int 0, .int 0, .int 0, .int 0, .ref (B + 51), .ref (B + 52)]) tyX9 tyX9_ok nmX9 (by decide) ((up_ne (by decide)).trans up_at) rfl rfl inT9 (by decide) rfl tb_6 rfl hin rfl (by decide +kernel) rfl rfl (Nat.le_of_ble_eq_true rfl) dX9_init_37 (fun H locs w => ?_)
  exact n_end F w hr hlocks dX9_init_40
set_option maxRecDepth 8000 in
theorem n_X9_init_24 {l : Launch} {D : va_G} {B : Nat} {cy : Nat → ClassId} {E : Nat → va_E} (h0 : E 53 = .inr (9, [.int 0, .int 0, .int 0, .int 0, .null, .null])) : Cn l D B cy yX9_init cX9_init 1 1 12 2 24 [.ref (B + 53)] 54 E 56 (va_up (va_up (va_up (va_up E 54 (.inl (cy 2, 12, .inl (fun _ => 0)))) 53 (.inr (9, [.int 0, .int 0, .int 0, .int 0, .ref (B + 54), .null]))) 55 (.inl (cy 2, 12, .inl (fun _ => 0)))) 53 (.inr (9, [.int 0, .int 0, .int 0, .int 0, .ref (B + 54), .ref (B + 55)]))) := by
  refine n_start (by decide) (Nat.le_of_ble_eq_true rfl) rfl ?_
  intro p e s m below meth c ls F hr hlocks hin w hl
  have F : CallFix p m c cX9_init 1 s _ TB RX9 := F
  have hx := F.1
  have hb := F.2.1
  have hl : lv_has ls 1 [(0, .ref (B + 53))] := hl
  refine lv_aload_n hx hb dX9_init_0 rfl (lv_at hl 0 rfl) ?_
  refine n_obj F hl.1 tb_755 tb_723 tk_obj dX9_init_1 (Nat.le_of_ble_eq_true rfl) (Nat.le_of_ble_eq_true rfl) ?_
  refine lv_aload_n hx hb dX9_init_4 rfl (lv_at hl 0 rfl) ?_
  refine lv_iconst (v := 0) hx hb dX9_init_5 (by decide) ?_
  refine n_put F w (a := 53) (C := RX9) (T := TX9) (N := 6) (ci := 9) (k := 0) (x := .int 0) (ty := .int) (fs1 := [.int 0, .int 0, .int 0, .int 0, .null, .null]) tyX9 tyX9_ok nmX9 (by decide) (h0) rfl rfl inT9 (by decide) rfl tb_0 rfl (by decide +kernel) rfl rfl (Nat.le_of_ble_eq_true rfl) dX9_init_6 (fun H locs w => ?_)
  rw [up_same (h0)] at w
  refine lv_aload_n hx hb dX9_init_9 rfl (lv_at hl 0 rfl) ?_
  refine lv_iconst (v := 0) hx hb dX9_init_10 (by decide) ?_
  refine n_put F w (a := 53) (C := RX9) (T := TX9) (N := 6) (ci := 9) (k := 1) (x := .int 0) (ty := .int) (fs1 := [.int 0, .int 0, .int 0, .int 0, .null, .null]) tyX9 tyX9_ok nmX9 (by decide) (h0) rfl rfl inT9 (by decide) rfl tb_1 rfl (by decide +kernel) rfl rfl (Nat.le_of_ble_eq_true rfl) dX9_init_11 (fun H locs w => ?_)
  rw [up_same (h0)] at w
  refine lv_aload_n hx hb dX9_init_14 rfl (lv_at hl 0 rfl) ?_
  refine lv_iconst (v := 0) hx hb dX9_init_15 (by decide) ?_
  refine n_put F w (a := 53) (C := RX9) (T := TX9) (N := 6) (ci := 9) (k := 2) (x := .int 0) (ty := .int) (fs1 := [.int 0, .int 0, .int 0, .int 0, .null, .null]) tyX9 tyX9_ok nmX9 (by decide) (h0) rfl rfl inT9 (by decide) rfl tb_11 rfl (by decide +kernel) rfl rfl (Nat.le_of_ble_eq_true rfl) dX9_init_16 (fun H locs w => ?_)
  rw [up_same (h0)] at w
  refine lv_aload_n hx hb dX9_init_19 rfl (lv_at hl 0 rfl) ?_
  refine lv_iconst (v := 0) hx hb dX9_init_20 (by decide) ?_
  refine n_put F w (a := 53) (C := RX9) (T := TX9) (N := 6) (ci := 9) (k := 3) (x := .int 0) (ty := .int) (fs1 := [.int 0, .int 0, .int 0, .int 0, .null, .null]) tyX9 tyX9_ok nmX9 (by decide) (h0) rfl rfl inT9 (by decide) rfl tb_12 rfl (by decide +kernel) rfl rfl (Nat.le_of_ble_eq_true rfl) dX9_init_21 (fun H locs w => ?_)
  rw [up_same (h0)] at w
  refine lv_aload_n hx hb dX9_init_24 rfl (lv_at hl 0 rfl) ?_
  refine lv_bipush (v := 12) hx hb dX9_init_25 (by decide) ?_
  refine n_newa F w (atype := .int) (ty := .int) (t := 2) (N := 12) (cA := cy 2) (a0 := (12, .inl (fun _ => 0))) tb_741 rfl (fun _ h => h) rfl (fun _ => rfl) (by decide) (by decide) (Nat.le_of_ble_eq_true rfl) (Nat.le_of_ble_eq_true rfl) (Nat.le_of_ble_eq_true rfl) (c1 := 1) (s1 := 12) (n1 := 55) rfl rfl rfl dX9_init_27 (fun H w => ?_)
  refine n_putF F w (a := 53) (C := RX9) (T := TX9) (N := 6) (ci := 9) (k := 4) (x := .ref (B + 54)) (ty := .array .int) (fs1 := [.int 0, .int 0, .int 0, .int 0, .ref (B + 54), .null]) tyX9 tyX9_ok nmX9 (by decide) ((up_ne (by decide)).trans h0) rfl rfl inT9 (by decide) rfl tb_7 rfl hin rfl (by decide +kernel) rfl rfl (Nat.le_of_ble_eq_true rfl) dX9_init_29 (fun H locs w => ?_)
  refine lv_aload_n hx hb dX9_init_32 rfl (lv_at hl 0 rfl) ?_
  refine lv_bipush (v := 12) hx hb dX9_init_33 (by decide) ?_
  refine n_newa F w (atype := .int) (ty := .int) (t := 2) (N := 12) (cA := cy 2) (a0 := (12, .inl (fun _ => 0))) tb_741 rfl (fun _ h => h) rfl (fun _ => rfl) (by decide) (by decide) (Nat.le_of_ble_eq_true rfl) (Nat.le_of_ble_eq_true rfl) (Nat.le_of_ble_eq_true rfl) (c1 := 2) (s1 := 24) (n1 := 56) rfl rfl rfl dX9_init_35 (fun H w => ?_)
  refine n_putF F w (a := 53) (C := RX9) (T := TX9) (N := 6) (ci := 9) (k := 5) (x := .ref (B + 55)) (ty := .array .int) (fs1 := [.int 0, .int 0, .int 0, .int 0, .ref (B + 54), .ref (B + 55)]) tyX9 tyX9_ok nmX9 (by decide) ((up_ne (by decide)).trans up_at) rfl rfl inT9 (by decide) rfl tb_6 rfl hin rfl (by decide +kernel) rfl rfl (Nat.le_of_ble_eq_true rfl) dX9_init_37 (fun H locs w => ?_)
  exact n_end F w hr hlocks dX9_init_40
set_option maxRecDepth 8000 in
theorem n_X9_init_25 {l : Launch} {D : va_G} {B : Nat} {cy : Nat → ClassId} {E : Nat → va_E} (h0 : E 56 = .inr (9, [.int 0, .int 0, .int 0, .int 0, .null, .null])) : Cn l D B cy yX9_init cX9_init 1 1 12 2 24 [.ref (B + 56)] 57 E 59 (va_up (va_up (va_up (va_up E 57 (.inl (cy 2, 12, .inl (fun _ => 0)))) 56 (.inr (9, [.int 0, .int 0, .int 0, .int 0, .ref (B + 57), .null]))) 58 (.inl (cy 2, 12, .inl (fun _ => 0)))) 56 (.inr (9, [.int 0, .int 0, .int 0, .int 0, .ref (B + 57), .ref (B + 58)]))) := by
  refine n_start (by decide) (Nat.le_of_ble_eq_true rfl) rfl ?_
  intro p e s m below meth c ls F hr hlocks hin w hl
  have F : CallFix p m c cX9_init 1 s _ TB RX9 := F
  have hx := F.1
  have hb := F.2.1
  have hl : lv_has ls 1 [(0, .ref (B + 56))] := hl
  refine lv_aload_n hx hb dX9_init_0 rfl (lv_at hl 0 rfl) ?_
  refine n_obj F hl.1 tb_755 tb_723 tk_obj dX9_init_1 (Nat.le_of_ble_eq_true rfl) (Nat.le_of_ble_eq_true rfl) ?_
  refine lv_aload_n hx hb dX9_init_4 rfl (lv_at hl 0 rfl) ?_
  refine lv_iconst (v := 0) hx hb dX9_init_5 (by decide) ?_
  refine n_put F w (a := 56) (C := RX9) (T := TX9) (N := 6) (ci := 9) (k := 0) (x := .int 0) (ty := .int) (fs1 := [.int 0, .int 0, .int 0, .int 0, .null, .null]) tyX9 tyX9_ok nmX9 (by decide) (h0) rfl rfl inT9 (by decide) rfl tb_0 rfl (by decide +kernel) rfl rfl (Nat.le_of_ble_eq_true rfl) dX9_init_6 (fun H locs w => ?_)
  rw [up_same (h0)] at w
  refine lv_aload_n hx hb dX9_init_9 rfl (lv_at hl 0 rfl) ?_
  refine lv_iconst (v := 0) hx hb dX9_init_10 (by decide) ?_
  refine n_put F w (a := 56) (C := RX9) (T := TX9) (N := 6) (ci := 9) (k := 1) (x := .int 0) (ty := .int) (fs1 := [.int 0, .int 0, .int 0, .int 0, .null, .null]) tyX9 tyX9_ok nmX9 (by decide) (h0) rfl rfl inT9 (by decide) rfl tb_1 rfl (by decide +kernel) rfl rfl (Nat.le_of_ble_eq_true rfl) dX9_init_11 (fun H locs w => ?_)
  rw [up_same (h0)] at w
  refine lv_aload_n hx hb dX9_init_14 rfl (lv_at hl 0 rfl) ?_
  refine lv_iconst (v := 0) hx hb dX9_init_15 (by decide) ?_
  refine n_put F w (a := 56) (C := RX9) (T := TX9) (N := 6) (ci := 9) (k := 2) (x := .int 0) (ty := .int) (fs1 := [.int 0, .int 0, .int 0, .int 0, .null, .null]) tyX9 tyX9_ok nmX9 (by decide) (h0) rfl rfl inT9 (by decide) rfl tb_11 rfl (by decide +kernel) rfl rfl (Nat.le_of_ble_eq_true rfl) dX9_init_16 (fun H locs w => ?_)
  rw [up_same (h0)] at w
  refine lv_aload_n hx hb dX9_init_19 rfl (lv_at hl 0 rfl) ?_
  refine lv_iconst (v := 0) hx hb dX9_init_20 (by decide) ?_
  refine n_put F w (a := 56) (C := RX9) (T := TX9) (N := 6) (ci := 9) (k := 3) (x := .int 0) (ty := .int) (fs1 := [.int 0, .int 0, .int 0, .int 0, .null, .null]) tyX9 tyX9_ok nmX9 (by decide) (h0) rfl rfl inT9 (by decide) rfl tb_12 rfl (by decide +kernel) rfl rfl (Nat.le_of_ble_eq_true rfl) dX9_init_21 (fun H locs w => ?_)
  rw [up_same (h0)] at w
  refine lv_aload_n hx hb dX9_init_24 rfl (lv_at hl 0 rfl) ?_
  refine lv_bipush (v := 12) hx hb dX9_init_25 (by decide) ?_
  refine n_newa F w (atype := .int) (ty := .int) (t := 2) (N := 12) (cA := cy 2) (a0 := (12, .inl (fun _ => 0))) tb_741 rfl (fun _ h => h) rfl (fun _ => rfl) (by decide) (by decide) (Nat.le_of_ble_eq_true rfl) (Nat.le_of_ble_eq_true rfl) (Nat.le_of_ble_eq_true rfl) (c1 := 1) (s1 := 12) (n1 := 58) rfl rfl rfl dX9_init_27 (fun H w => ?_)
  refine n_putF F w (a := 56) (C := RX9) (T := TX9) (N := 6) (ci := 9) (k := 4) (x := .ref (B + 57)) (ty := .array .int) (fs1 := [.int 0, .int 0, .int 0, .int 0, .ref (B + 57), .null]) tyX9 tyX9_ok nmX9 (by decide) ((up_ne (by decide)).trans h0) rfl rfl inT9 (by decide) rfl tb_7 rfl hin rfl (by decide +kernel) rfl rfl (Nat.le_of_ble_eq_true rfl) dX9_init_29 (fun H locs w => ?_)
  refine lv_aload_n hx hb dX9_init_32 rfl (lv_at hl 0 rfl) ?_
  refine lv_bipush (v := 12) hx hb dX9_init_33 (by decide) ?_
  refine n_newa F w (atype := .int) (ty := .int) (t := 2) (N := 12) (cA := cy 2) (a0 := (12, .inl (fun _ => 0))) tb_741 rfl (fun _ h => h) rfl (fun _ => rfl) (by decide) (by decide) (Nat.le_of_ble_eq_true rfl) (Nat.le_of_ble_eq_true rfl) (Nat.le_of_ble_eq_true rfl) (c1 := 2) (s1 := 24) (n1 := 59) rfl rfl rfl dX9_init_35 (fun H w => ?_)
  refine n_putF F w (a := 56) (C := RX9) (T := TX9) (N := 6) (ci := 9) (k := 5) (x := .ref (B + 58)) (ty := .array .int) (fs1 := [.int 0, .int 0, .int 0, .int 0, .ref (B + 57), .ref (B + 58)]) tyX9 tyX9_ok nmX9 (by decide) ((up_ne (by decide)).trans up_at) rfl rfl inT9 (by decide) rfl tb_6 rfl hin rfl (by decide +kernel) rfl rfl (Nat.le_of_ble_eq_true rfl) dX9_init_37 (fun H locs w => ?_)
  exact n_end F w hr hlocks dX9_init_40
set_option maxRecDepth 8000 in
theorem n_X9_init_26 {l : Launch} {D : va_G} {B : Nat} {cy : Nat → ClassId} {E : Nat → va_E} (h0 : E 59 = .inr (9, [.int 0, .int 0, .int 0, .int 0, .null, .null])) : Cn l D B cy yX9_init cX9_init 1 1 12 2 24 [.ref (B + 59)] 60 E 62 (va_up (va_up (va_up (va_up E 60 (.inl (cy 2, 12, .inl (fun _ => 0)))) 59 (.inr (9, [.int 0, .int 0, .int 0, .int 0, .ref (B + 60), .null]))) 61 (.inl (cy 2, 12, .inl (fun _ => 0)))) 59 (.inr (9, [.int 0, .int 0, .int 0, .int 0, .ref (B + 60), .ref (B + 61)]))) := by
  refine n_start (by decide) (Nat.le_of_ble_eq_true rfl) rfl ?_
  intro p e s m below meth c ls F hr hlocks hin w hl
  have F : CallFix p m c cX9_init 1 s _ TB RX9 := F
  have hx := F.1
  have hb := F.2.1
  have hl : lv_has ls 1 [(0, .ref (B + 59))] := hl
  refine lv_aload_n hx hb dX9_init_0 rfl (lv_at hl 0 rfl) ?_
  refine n_obj F hl.1 tb_755 tb_723 tk_obj dX9_init_1 (Nat.le_of_ble_eq_true rfl) (Nat.le_of_ble_eq_true rfl) ?_
  refine lv_aload_n hx hb dX9_init_4 rfl (lv_at hl 0 rfl) ?_
  refine lv_iconst (v := 0) hx hb dX9_init_5 (by decide) ?_
  refine n_put F w (a := 59) (C := RX9) (T := TX9) (N := 6) (ci := 9) (k := 0) (x := .int 0) (ty := .int) (fs1 := [.int 0, .int 0, .int 0, .int 0, .null, .null]) tyX9 tyX9_ok nmX9 (by decide) (h0) rfl rfl inT9 (by decide) rfl tb_0 rfl (by decide +kernel) rfl rfl (Nat.le_of_ble_eq_true rfl) dX9_init_6 (fun H locs w => ?_)
  rw [up_same (h0)] at w
  refine lv_aload_n hx hb dX9_init_9 rfl (lv_at hl 0 rfl) ?_
  refine lv_iconst (v := 0) hx hb dX9_init_10 (by decide) ?_
  refine n_put F w (a := 59) (C := RX9) (T := TX9) (N := 6) (ci := 9) (k := 1) (x := .int 0) (ty := .int) (fs1 := [.int 0, .int 0, .int 0, .int 0, .null, .null]) tyX9 tyX9_ok nmX9 (by decide) (h0) rfl rfl inT9 (by decide) rfl tb_1 rfl (by decide +kernel) rfl rfl (Nat.le_of_ble_eq_true rfl) dX9_init_11 (fun H locs w => ?_)
  rw [up_same (h0)] at w
  refine lv_aload_n hx hb dX9_init_14 rfl (lv_at hl 0 rfl) ?_
  refine lv_iconst (v := 0) hx hb dX9_init_15 (by decide) ?_
  refine n_put F w (a := 59) (C := RX9) (T := TX9) (N := 6) (ci := 9) (k := 2) (x := .int 0) (ty := .int) (fs1 := [.int 0, .int 0, .int 0, .int 0, .null, .null]) tyX9 tyX9_ok nmX9 (by decide) (h0) rfl rfl inT9 (by decide) rfl tb_11 rfl (by decide +kernel) rfl rfl (Nat.le_of_ble_eq_true rfl) dX9_init_16 (fun H locs w => ?_)
  rw [up_same (h0)] at w
  refine lv_aload_n hx hb dX9_init_19 rfl (lv_at hl 0 rfl) ?_
  refine lv_iconst (v := 0) hx hb dX9_init_20 (by decide) ?_
  refine n_put F w (a := 59) (C := RX9) (T := TX9) (N := 6) (ci := 9) (k := 3) (x := .int 0) (ty := .int) (fs1 := [.int 0, .int 0, .int 0, .int 0, .null, .null]) tyX9 tyX9_ok nmX9 (by decide) (h0) rfl rfl inT9 (by decide) rfl tb_12 rfl (by decide +kernel) rfl rfl (Nat.le_of_ble_eq_true rfl) dX9_init_21 (fun H locs w => ?_)
  rw [up_same (h0)] at w
  refine lv_aload_n hx hb dX9_init_24 rfl (lv_at hl 0 rfl) ?_
  refine lv_bipush (v := 12) hx hb dX9_init_25 (by decide) ?_
  refine n_newa F w (atype := .int) (ty := .int) (t := 2) (N := 12) (cA := cy 2) (a0 := (12, .inl (fun _ => 0))) tb_741 rfl (fun _ h => h) rfl (fun _ => rfl) (by decide) (by decide) (Nat.le_of_ble_eq_true rfl) (Nat.le_of_ble_eq_true rfl) (Nat.le_of_ble_eq_true rfl) (c1 := 1) (s1 := 12) (n1 := 61) rfl rfl rfl dX9_init_27 (fun H w => ?_)
  refine n_putF F w (a := 59) (C := RX9) (T := TX9) (N := 6) (ci := 9) (k := 4) (x := .ref (B + 60)) (ty := .array .int) (fs1 := [.int 0, .int 0, .int 0, .int 0, .ref (B + 60), .null]) tyX9 tyX9_ok nmX9 (by decide) ((up_ne (by decide)).trans h0) rfl rfl inT9 (by decide) rfl tb_7 rfl hin rfl (by decide +kernel) rfl rfl (Nat.le_of_ble_eq_true rfl) dX9_init_29 (fun H locs w => ?_)
  refine lv_aload_n hx hb dX9_init_32 rfl (lv_at hl 0 rfl) ?_
  refine lv_bipush (v := 12) hx hb dX9_init_33 (by decide) ?_
  refine n_newa F w (atype := .int) (ty := .int) (t := 2) (N := 12) (cA := cy 2) (a0 := (12, .inl (fun _ => 0))) tb_741 rfl (fun _ h => h) rfl (fun _ => rfl) (by decide) (by decide) (Nat.le_of_ble_eq_true rfl) (Nat.le_of_ble_eq_true rfl) (Nat.le_of_ble_eq_true rfl) (c1 := 2) (s1 := 24) (n1 := 62) rfl rfl rfl dX9_init_35 (fun H w => ?_)
  refine n_putF F w (a := 59) (C := RX9) (T := TX9) (N := 6) (ci := 9) (k := 5) (x := .ref (B + 61)) (ty := .array .int) (fs1 := [.int 0, .int 0, .int 0, .int 0, .ref (B + 60), .ref (B + 61)]) tyX9 tyX9_ok nmX9 (by decide) ((up_ne (by decide)).trans up_at) rfl rfl inT9 (by decide) rfl tb_6 rfl hin rfl (by decide +kernel) rfl rfl (Nat.le_of_ble_eq_true rfl) dX9_init_37 (fun H locs w => ?_)
  exact n_end F w hr hlocks dX9_init_40
set_option maxRecDepth 8000 in
theorem n_X9_init_27 {l : Launch} {D : va_G} {B : Nat} {cy : Nat → ClassId} {E : Nat → va_E} (h0 : E 62 = .inr (9, [.int 0, .int 0, .int 0, .int 0, .null, .null])) : Cn l D B cy yX9_init cX9_init 1 1 12 2 24 [.ref (B + 62)] 63 E 65 (va_up (va_up (va_up (va_up E 63 (.inl (cy 2, 12, .inl (fun _ => 0)))) 62 (.inr (9, [.int 0, .int 0, .int 0, .int 0, .ref (B + 63), .null]))) 64 (.inl (cy 2, 12, .inl (fun _ => 0)))) 62 (.inr (9, [.int 0, .int 0, .int 0, .int 0, .ref (B + 63), .ref (B + 64)]))) := by
  refine n_start (by decide) (Nat.le_of_ble_eq_true rfl) rfl ?_
  intro p e s m below meth c ls F hr hlocks hin w hl
  have F : CallFix p m c cX9_init 1 s _ TB RX9 := F
  have hx := F.1
  have hb := F.2.1
  have hl : lv_has ls 1 [(0, .ref (B + 62))] := hl
  refine lv_aload_n hx hb dX9_init_0 rfl (lv_at hl 0 rfl) ?_
  refine n_obj F hl.1 tb_755 tb_723 tk_obj dX9_init_1 (Nat.le_of_ble_eq_true rfl) (Nat.le_of_ble_eq_true rfl) ?_
  refine lv_aload_n hx hb dX9_init_4 rfl (lv_at hl 0 rfl) ?_
  refine lv_iconst (v := 0) hx hb dX9_init_5 (by decide) ?_
  refine n_put F w (a := 62) (C := RX9) (T := TX9) (N := 6) (ci := 9) (k := 0) (x := .int 0) (ty := .int) (fs1 := [.int 0, .int 0, .int 0, .int 0, .null, .null]) tyX9 tyX9_ok nmX9 (by decide) (h0) rfl rfl inT9 (by decide) rfl tb_0 rfl (by decide +kernel) rfl rfl (Nat.le_of_ble_eq_true rfl) dX9_init_6 (fun H locs w => ?_)
  rw [up_same (h0)] at w
  refine lv_aload_n hx hb dX9_init_9 rfl (lv_at hl 0 rfl) ?_
  refine lv_iconst (v := 0) hx hb dX9_init_10 (by decide) ?_
  refine n_put F w (a := 62) (C := RX9) (T := TX9) (N := 6) (ci := 9) (k := 1) (x := .int 0) (ty := .int) (fs1 := [.int 0, .int 0, .int 0, .int 0, .null, .null]) tyX9 tyX9_ok nmX9 (by decide) (h0) rfl rfl inT9 (by decide) rfl tb_1 rfl (by decide +kernel) rfl rfl (Nat.le_of_ble_eq_true rfl) dX9_init_11 (fun H locs w => ?_)
  rw [up_same (h0)] at w
  refine lv_aload_n hx hb dX9_init_14 rfl (lv_at hl 0 rfl) ?_
  refine lv_iconst (v := 0) hx hb dX9_init_15 (by decide) ?_
  refine n_put F w (a := 62) (C := RX9) (T := TX9) (N := 6) (ci := 9) (k := 2) (x := .int 0) (ty := .int) (fs1 := [.int 0, .int 0, .int 0, .int 0, .null, .null]) tyX9 tyX9_ok nmX9 (by decide) (h0) rfl rfl inT9 (by decide) rfl tb_11 rfl (by decide +kernel) rfl rfl (Nat.le_of_ble_eq_true rfl) dX9_init_16 (fun H locs w => ?_)
  rw [up_same (h0)] at w
  refine lv_aload_n hx hb dX9_init_19 rfl (lv_at hl 0 rfl) ?_
  refine lv_iconst (v := 0) hx hb dX9_init_20 (by decide) ?_
  refine n_put F w (a := 62) (C := RX9) (T := TX9) (N := 6) (ci := 9) (k := 3) (x := .int 0) (ty := .int) (fs1 := [.int 0, .int 0, .int 0, .int 0, .null, .null]) tyX9 tyX9_ok nmX9 (by decide) (h0) rfl rfl inT9 (by decide) rfl tb_12 rfl (by decide +kernel) rfl rfl (Nat.le_of_ble_eq_true rfl) dX9_init_21 (fun H locs w => ?_)
  rw [up_same (h0)] at w
  refine lv_aload_n hx hb dX9_init_24 rfl (lv_at hl 0 rfl) ?_
  refine lv_bipush (v := 12) hx hb dX9_init_25 (by decide) ?_
  refine n_newa F w (atype := .int) (ty := .int) (t := 2) (N := 12) (cA := cy 2) (a0 := (12, .inl (fun _ => 0))) tb_741 rfl (fun _ h => h) rfl (fun _ => rfl) (by decide) (by decide) (Nat.le_of_ble_eq_true rfl) (Nat.le_of_ble_eq_true rfl) (Nat.le_of_ble_eq_true rfl) (c1 := 1) (s1 := 12) (n1 := 64) rfl rfl rfl dX9_init_27 (fun H w => ?_)
  refine n_putF F w (a := 62) (C := RX9) (T := TX9) (N := 6) (ci := 9) (k := 4) (x := .ref (B + 63)) (ty := .array .int) (fs1 := [.int 0, .int 0, .int 0, .int 0, .ref (B + 63), .null]) tyX9 tyX9_ok nmX9 (by decide) ((up_ne (by decide)).trans h0) rfl rfl inT9 (by decide) rfl tb_7 rfl hin rfl (by decide +kernel) rfl rfl (Nat.le_of_ble_eq_true rfl) dX9_init_29 (fun H locs w => ?_)
  refine lv_aload_n hx hb dX9_init_32 rfl (lv_at hl 0 rfl) ?_
  refine lv_bipush (v := 12) hx hb dX9_init_33 (by decide) ?_
  refine n_newa F w (atype := .int) (ty := .int) (t := 2) (N := 12) (cA := cy 2) (a0 := (12, .inl (fun _ => 0))) tb_741 rfl (fun _ h => h) rfl (fun _ => rfl) (by decide) (by decide) (Nat.le_of_ble_eq_true rfl) (Nat.le_of_ble_eq_true rfl) (Nat.le_of_ble_eq_true rfl) (c1 := 2) (s1 := 24) (n1 := 65) rfl rfl rfl dX9_init_35 (fun H w => ?_)
  refine n_putF F w (a := 62) (C := RX9) (T := TX9) (N := 6) (ci := 9) (k := 5) (x := .ref (B + 64)) (ty := .array .int) (fs1 := [.int 0, .int 0, .int 0, .int 0, .ref (B + 63), .ref (B + 64)]) tyX9 tyX9_ok nmX9 (by decide) ((up_ne (by decide)).trans up_at) rfl rfl inT9 (by decide) rfl tb_6 rfl hin rfl (by decide +kernel) rfl rfl (Nat.le_of_ble_eq_true rfl) dX9_init_37 (fun H locs w => ?_)
  exact n_end F w hr hlocks dX9_init_40
set_option maxRecDepth 8000 in
theorem n_X9_init_28 {l : Launch} {D : va_G} {B : Nat} {cy : Nat → ClassId} {E : Nat → va_E} (h0 : E 65 = .inr (9, [.int 0, .int 0, .int 0, .int 0, .null, .null])) : Cn l D B cy yX9_init cX9_init 1 1 12 2 24 [.ref (B + 65)] 66 E 68 (va_up (va_up (va_up (va_up E 66 (.inl (cy 2, 12, .inl (fun _ => 0)))) 65 (.inr (9, [.int 0, .int 0, .int 0, .int 0, .ref (B + 66), .null]))) 67 (.inl (cy 2, 12, .inl (fun _ => 0)))) 65 (.inr (9, [.int 0, .int 0, .int 0, .int 0, .ref (B + 66), .ref (B + 67)]))) := by
  refine n_start (by decide) (Nat.le_of_ble_eq_true rfl) rfl ?_
  intro p e s m below meth c ls F hr hlocks hin w hl
  have F : CallFix p m c cX9_init 1 s _ TB RX9 := F
  have hx := F.1
  have hb := F.2.1
  have hl : lv_has ls 1 [(0, .ref (B + 65))] := hl
  refine lv_aload_n hx hb dX9_init_0 rfl (lv_at hl 0 rfl) ?_
  refine n_obj F hl.1 tb_755 tb_723 tk_obj dX9_init_1 (Nat.le_of_ble_eq_true rfl) (Nat.le_of_ble_eq_true rfl) ?_
  refine lv_aload_n hx hb dX9_init_4 rfl (lv_at hl 0 rfl) ?_
  refine lv_iconst (v := 0) hx hb dX9_init_5 (by decide) ?_
  refine n_put F w (a := 65) (C := RX9) (T := TX9) (N := 6) (ci := 9) (k := 0) (x := .int 0) (ty := .int) (fs1 := [.int 0, .int 0, .int 0, .int 0, .null, .null]) tyX9 tyX9_ok nmX9 (by decide) (h0) rfl rfl inT9 (by decide) rfl tb_0 rfl (by decide +kernel) rfl rfl (Nat.le_of_ble_eq_true rfl) dX9_init_6 (fun H locs w => ?_)
  rw [up_same (h0)] at w
  refine lv_aload_n hx hb dX9_init_9 rfl (lv_at hl 0 rfl) ?_
  refine lv_iconst (v := 0) hx hb dX9_init_10 (by decide) ?_
  refine n_put F w (a := 65) (C := RX9) (T := TX9) (N := 6) (ci := 9) (k := 1) (x := .int 0) (ty := .int) (fs1 := [.int 0, .int 0, .int 0, .int 0, .null, .null]) tyX9 tyX9_ok nmX9 (by decide) (h0) rfl rfl inT9 (by decide) rfl tb_1 rfl (by decide +kernel) rfl rfl (Nat.le_of_ble_eq_true rfl) dX9_init_11 (fun H locs w => ?_)
  rw [up_same (h0)] at w
  refine lv_aload_n hx hb dX9_init_14 rfl (lv_at hl 0 rfl) ?_
  refine lv_iconst (v := 0) hx hb dX9_init_15 (by decide) ?_
  refine n_put F w (a := 65) (C := RX9) (T := TX9) (N := 6) (ci := 9) (k := 2) (x := .int 0) (ty := .int) (fs1 := [.int 0, .int 0, .int 0, .int 0, .null, .null]) tyX9 tyX9_ok nmX9 (by decide) (h0) rfl rfl inT9 (by decide) rfl tb_11 rfl (by decide +kernel) rfl rfl (Nat.le_of_ble_eq_true rfl) dX9_init_16 (fun H locs w => ?_)
  rw [up_same (h0)] at w
  refine lv_aload_n hx hb dX9_init_19 rfl (lv_at hl 0 rfl) ?_
  refine lv_iconst (v := 0) hx hb dX9_init_20 (by decide) ?_
  refine n_put F w (a := 65) (C := RX9) (T := TX9) (N := 6) (ci := 9) (k := 3) (x := .int 0) (ty := .int) (fs1 := [.int 0, .int 0, .int 0, .int 0, .null, .null]) tyX9 tyX9_ok nmX9 (by decide) (h0) rfl rfl inT9 (by decide) rfl tb_12 rfl (by decide +kernel) rfl rfl (Nat.le_of_ble_eq_true rfl) dX9_init_21 (fun H locs w => ?_)
  rw [up_same (h0)] at w
  refine lv_aload_n hx hb dX9_init_24 rfl (lv_at hl 0 rfl) ?_
  refine lv_bipush (v := 12) hx hb dX9_init_25 (by decide) ?_
  refine n_newa F w (atype := .int) (ty := .int) (t := 2) (N := 12) (cA := cy 2) (a0 := (12, .inl (fun _ => 0))) tb_741 rfl (fun _ h => h) rfl (fun _ => rfl) (by decide) (by decide) (Nat.le_of_ble_eq_true rfl) (Nat.le_of_ble_eq_true rfl) (Nat.le_of_ble_eq_true rfl) (c1 := 1) (s1 := 12) (n1 := 67) rfl rfl rfl dX9_init_27 (fun H w => ?_)
  refine n_putF F w (a := 65) (C := RX9) (T := TX9) (N := 6) (ci := 9) (k := 4) (x := .ref (B + 66)) (ty := .array .int) (fs1 := [.int 0, .int 0, .int 0, .int 0, .ref (B + 66), .null]) tyX9 tyX9_ok nmX9 (by decide) ((up_ne (by decide)).trans h0) rfl rfl inT9 (by decide) rfl tb_7 rfl hin rfl (by decide +kernel) rfl rfl (Nat.le_of_ble_eq_true rfl) dX9_init_29 (fun H locs w => ?_)
  refine lv_aload_n hx hb dX9_init_32 rfl (lv_at hl 0 rfl) ?_
  refine lv_bipush (v := 12) hx hb dX9_init_33 (by decide) ?_
  refine n_newa F w (atype := .int) (ty := .int) (t := 2) (N := 12) (cA := cy 2) (a0 := (12, .inl (fun _ => 0))) tb_741 rfl (fun _ h => h) rfl (fun _ => rfl) (by decide) (by decide) (Nat.le_of_ble_eq_true rfl) (Nat.le_of_ble_eq_true rfl) (Nat.le_of_ble_eq_true rfl) (c1 := 2) (s1 := 24) (n1 := 68) rfl rfl rfl dX9_init_35 (fun H w => ?_)
  refine n_putF F w (a := 65) (C := RX9) (T := TX9) (N := 6) (ci := 9) (k := 5) (x := .ref (B + 67)) (ty := .array .int) (fs1 := [.int 0, .int 0, .int 0, .int 0, .ref (B + 66), .ref (B + 67)]) tyX9 tyX9_ok nmX9 (by decide) ((up_ne (by decide)).trans up_at) rfl rfl inT9 (by decide) rfl tb_6 rfl hin rfl (by decide +kernel) rfl rfl (Nat.le_of_ble_eq_true rfl) dX9_init_37 (fun H locs w => ?_)
  exact n_end F w hr hlocks dX9_init_40
set_option maxRecDepth 8000 in
theorem n_X9_init_29 {l : Launch} {D : va_G} {B : Nat} {cy : Nat → ClassId} {E : Nat → va_E} (h0 : E 68 = .inr (9, [.int 0, .int 0, .int 0, .int 0, .null, .null])) : Cn l D B cy yX9_init cX9_init 1 1 12 2 24 [.ref (B + 68)] 69 E 71 (va_up (va_up (va_up (va_up E 69 (.inl (cy 2, 12, .inl (fun _ => 0)))) 68 (.inr (9, [.int 0, .int 0, .int 0, .int 0, .ref (B + 69), .null]))) 70 (.inl (cy 2, 12, .inl (fun _ => 0)))) 68 (.inr (9, [.int 0, .int 0, .int 0, .int 0, .ref (B + 69), .ref (B + 70)]))) := by
  refine n_start (by decide) (Nat.le_of_ble_eq_true rfl) rfl ?_
  intro p e s m below meth c ls F hr hlocks hin w hl
  have F : CallFix p m c cX9_init 1 s _ TB RX9 := F
  have hx := F.1
  have hb := F.2.1
  have hl : lv_has ls 1 [(0, .ref (B + 68))] := hl
  refine lv_aload_n hx hb dX9_init_0 rfl (lv_at hl 0 rfl) ?_
  refine n_obj F hl.1 tb_755 tb_723 tk_obj dX9_init_1 (Nat.le_of_ble_eq_true rfl) (Nat.le_of_ble_eq_true rfl) ?_
  refine lv_aload_n hx hb dX9_init_4 rfl (lv_at hl 0 rfl) ?_
  refine lv_iconst (v := 0) hx hb dX9_init_5 (by decide) ?_
  refine n_put F w (a := 68) (C := RX9) (T := TX9) (N := 6) (ci := 9) (k := 0) (x := .int 0) (ty := .int) (fs1 := [.int 0, .int 0, .int 0, .int 0, .null, .null]) tyX9 tyX9_ok nmX9 (by decide) (h0) rfl rfl inT9 (by decide) rfl tb_0 rfl (by decide +kernel) rfl rfl (Nat.le_of_ble_eq_true rfl) dX9_init_6 (fun H locs w => ?_)
  rw [up_same (h0)] at w
  refine lv_aload_n hx hb dX9_init_9 rfl (lv_at hl 0 rfl) ?_
  refine lv_iconst (v := 0) hx hb dX9_init_10 (by decide) ?_
  refine n_put F w (a := 68) (C := RX9) (T := TX9) (N := 6) (ci := 9) (k := 1) (x := .int 0) (ty := .int) (fs1 := [.int 0, .int 0, .int 0, .int 0, .null, .null]) tyX9 tyX9_ok nmX9 (by decide) (h0) rfl rfl inT9 (by decide) rfl tb_1 rfl (by decide +kernel) rfl rfl (Nat.le_of_ble_eq_true rfl) dX9_init_11 (fun H locs w => ?_)
  rw [up_same (h0)] at w
  refine lv_aload_n hx hb dX9_init_14 rfl (lv_at hl 0 rfl) ?_
  refine lv_iconst (v := 0) hx hb dX9_init_15 (by decide) ?_
  refine n_put F w (a := 68) (C := RX9) (T := TX9) (N := 6) (ci := 9) (k := 2) (x := .int 0) (ty := .int) (fs1 := [.int 0, .int 0, .int 0, .int 0, .null, .null]) tyX9 tyX9_ok nmX9 (by decide) (h0) rfl rfl inT9 (by decide) rfl tb_11 rfl (by decide +kernel) rfl rfl (Nat.le_of_ble_eq_true rfl) dX9_init_16 (fun H locs w => ?_)
  rw [up_same (h0)] at w
  refine lv_aload_n hx hb dX9_init_19 rfl (lv_at hl 0 rfl) ?_
  refine lv_iconst (v := 0) hx hb dX9_init_20 (by decide) ?_
  refine n_put F w (a := 68) (C := RX9) (T := TX9) (N := 6) (ci := 9) (k := 3) (x := .int 0) (ty := .int) (fs1 := [.int 0, .int 0, .int 0, .int 0, .null, .null]) tyX9 tyX9_ok nmX9 (by decide) (h0) rfl rfl inT9 (by decide) rfl tb_12 rfl (by decide +kernel) rfl rfl (Nat.le_of_ble_eq_true rfl) dX9_init_21 (fun H locs w => ?_)
  rw [up_same (h0)] at w
  refine lv_aload_n hx hb dX9_init_24 rfl (lv_at hl 0 rfl) ?_
  refine lv_bipush (v := 12) hx hb dX9_init_25 (by decide) ?_
  refine n_newa F w (atype := .int) (ty := .int) (t := 2) (N := 12) (cA := cy 2) (a0 := (12, .inl (fun _ => 0))) tb_741 rfl (fun _ h => h) rfl (fun _ => rfl) (by decide) (by decide) (Nat.le_of_ble_eq_true rfl) (Nat.le_of_ble_eq_true rfl) (Nat.le_of_ble_eq_true rfl) (c1 := 1) (s1 := 12) (n1 := 70) rfl rfl rfl dX9_init_27 (fun H w => ?_)
  refine n_putF F w (a := 68) (C := RX9) (T := TX9) (N := 6) (ci := 9) (k := 4) (x := .ref (B + 69)) (ty := .array .int) (fs1 := [.int 0, .int 0, .int 0, .int 0, .ref (B + 69), .null]) tyX9 tyX9_ok nmX9 (by decide) ((up_ne (by decide)).trans h0) rfl rfl inT9 (by decide) rfl tb_7 rfl hin rfl (by decide +kernel) rfl rfl (Nat.le_of_ble_eq_true rfl) dX9_init_29 (fun H locs w => ?_)
  refine lv_aload_n hx hb dX9_init_32 rfl (lv_at hl 0 rfl) ?_
  refine lv_bipush (v := 12) hx hb dX9_init_33 (by decide) ?_
  refine n_newa F w (atype := .int) (ty := .int) (t := 2) (N := 12) (cA := cy 2) (a0 := (12, .inl (fun _ => 0))) tb_741 rfl (fun _ h => h) rfl (fun _ => rfl) (by decide) (by decide) (Nat.le_of_ble_eq_true rfl) (Nat.le_of_ble_eq_true rfl) (Nat.le_of_ble_eq_true rfl) (c1 := 2) (s1 := 24) (n1 := 71) rfl rfl rfl dX9_init_35 (fun H w => ?_)
  refine n_putF F w (a := 68) (C := RX9) (T := TX9) (N := 6) (ci := 9) (k := 5) (x := .ref (B + 70)) (ty := .array .int) (fs1 := [.int 0, .int 0, .int 0, .int 0, .ref (B + 69), .ref (B + 70)]) tyX9 tyX9_ok nmX9 (by decide) ((up_ne (by decide)).trans up_at) rfl rfl inT9 (by decide) rfl tb_6 rfl hin rfl (by decide +kernel) rfl rfl (Nat.le_of_ble_eq_true rfl) dX9_init_37 (fun H locs w => ?_)
  exact n_end F w hr hlocks dX9_init_40
theorem dX0_init_113 : decode cX0_init 113 = .ok (.aload_n 0, 1) := dq0 kk_42 (by decide +kernel)
theorem dX0_init_114 : decode cX0_init 114 = .ok (.aload_n 0, 1) := dq0 kk_42 (by decide +kernel)
theorem dX0_init_115 : decode cX0_init 115 = .ok (.getfield 30, 3) := dqV kk_180 (by decide +kernel)
theorem dX0_init_118 : decode cX0_init 118 = .ok (.iconst 0, 1) := dq0 kk_3 (by decide +kernel)
theorem dX0_init_119 : decode cX0_init 119 = .ok (.aaload, 1) := dq0 kk_50 (by decide +kernel)
theorem dX0_init_120 : decode cX0_init 120 = .ok (.putfield 46, 3) := dqV kk_181 (by decide +kernel)
theorem dX0_init_123 : decode cX0_init 123 = .ok (.return_, 1) := dq0 kk_177 (by decide +kernel)
set_option maxRecDepth 8000 in
theorem n_X0_init_30 {l : Launch} {D : va_G} {B : Nat} {cy : Nat → ClassId} {E : Nat → va_E} (h0 : E 22 = .inr (0, [.null, .null, .int 0, .null, .null, .null, .null, .int 0])) : Cn l D B cy yX0_init cX0_init 2 2 32 48 376 [.ref (B + 22)] 23 E 71 (va_up (va_up (va_up (va_up (va_up (va_up (va_up (va_up (va_up (va_up (va_up (va_up (va_up (va_up (va_up (va_up (va_up (va_up (va_up (va_up (va_up (va_up (va_up (va_up (va_up (va_up (va_up (va_up (va_up (va_up (va_up (va_up (va_up (va_up (va_up (va_up (va_up (va_up (va_up (va_up (va_up (va_up (va_up (va_up (va_up (va_up (va_up (va_up (va_up (va_up (va_up (va_up (va_up (va_up (va_up (va_up (va_up (va_up (va_up (va_up (va_up (va_up (va_up (va_up (va_up (va_up (va_up (va_up (va_up (va_up (va_up (va_up (va_up (va_up (va_up (va_up (va_up (va_up (va_up (va_up (va_up (va_up (va_up (va_up (va_up (va_up (va_up (va_up (va_up (va_up (va_up (va_up (va_up (va_up (va_up (va_up (va_up E 23 (.inr (1, [.int 0]))) 22 (.inr (0, [.ref (B + 23), .null, .int 0, .null, .null, .null, .null, .int 0]))) 24 (.inl (cy 4, 8, .inr (.inr (.inr (.inr (fun _ => none))))))) 22 (.inr (0, [.ref (B + 23), .ref (B + 24), .int 0, .null, .null, .null, .null, .int 0]))) 25 (.inl (cy 5, 9, .inr (.inr (.inr (.inr (fun _ => none))))))) 22 (.inr (0, [.ref (B + 23), .ref (B + 24), .int 0, .ref (B + 25), .null, .null, .null, .int 0]))) 26 (.inl (cy 2, 8, .inl (fun _ => 0)))) 22 (.inr (0, [.ref (B + 23), .ref (B + 24), .int 0, .ref (B + 25), .null, .ref (B + 26), .null, .int 0]))) 27 (.inl (cy 2, 8, .inl (fun _ => 0)))) 22 (.inr (0, [.ref (B + 23), .ref (B + 24), .int 0, .ref (B + 25), .null, .ref (B + 26), .ref (B + 27), .int 0]))) 28 (.inr (4, [.null]))) 29 (.inl (cy 2, 8, .inl (fun _ => 0)))) 28 (.inr (4, [.ref (B + 29)]))) 24 (.inl (cy 4, 8, .inr (.inr (.inr (.inr (va_up (fun _ => none) 0 (some (B + 28))))))))) 30 (.inr (4, [.null]))) 31 (.inl (cy 2, 8, .inl (fun _ => 0)))) 30 (.inr (4, [.ref (B + 31)]))) 24 (.inl (cy 4, 8, .inr (.inr (.inr (.inr (va_up (va_up (fun _ => none) 0 (some (B + 28))) 1 (some (B + 30))))))))) 32 (.inr (4, [.null]))) 33 (.inl (cy 2, 8, .inl (fun _ => 0)))) 32 (.inr (4, [.ref (B + 33)]))) 24 (.inl (cy 4, 8, .inr (.inr (.inr (.inr (va_up (va_up (va_up (fun _ => none) 0 (some (B + 28))) 1 (some (B + 30))) 2 (some (B + 32))))))))) 34 (.inr (4, [.null]))) 35 (.inl (cy 2, 8, .inl (fun _ => 0)))) 34 (.inr (4, [.ref (B + 35)]))) 24 (.inl (cy 4, 8, .inr (.inr (.inr (.inr (va_up (va_up (va_up (va_up (fun _ => none) 0 (some (B + 28))) 1 (some (B + 30))) 2 (some (B + 32))) 3 (some (B + 34))))))))) 36 (.inr (4, [.null]))) 37 (.inl (cy 2, 8, .inl (fun _ => 0)))) 36 (.inr (4, [.ref (B + 37)]))) 24 (.inl (cy 4, 8, .inr (.inr (.inr (.inr (va_up (va_up (va_up (va_up (va_up (fun _ => none) 0 (some (B + 28))) 1 (some (B + 30))) 2 (some (B + 32))) 3 (some (B + 34))) 4 (some (B + 36))))))))) 38 (.inr (4, [.null]))) 39 (.inl (cy 2, 8, .inl (fun _ => 0)))) 38 (.inr (4, [.ref (B + 39)]))) 24 (.inl (cy 4, 8, .inr (.inr (.inr (.inr (va_up (va_up (va_up (va_up (va_up (va_up (fun _ => none) 0 (some (B + 28))) 1 (some (B + 30))) 2 (some (B + 32))) 3 (some (B + 34))) 4 (some (B + 36))) 5 (some (B + 38))))))))) 40 (.inr (4, [.null]))) 41 (.inl (cy 2, 8, .inl (fun _ => 0)))) 40 (.inr (4, [.ref (B + 41)]))) 24 (.inl (cy 4, 8, .inr (.inr (.inr (.inr (va_up (va_up (va_up (va_up (va_up (va_up (va_up (fun _ => none) 0 (some (B + 28))) 1 (some (B + 30))) 2 (some (B + 32))) 3 (some (B + 34))) 4 (some (B + 36))) 5 (some (B + 38))) 6 (some (B + 40))))))))) 42 (.inr (4, [.null]))) 43 (.inl (cy 2, 8, .inl (fun _ => 0)))) 42 (.inr (4, [.ref (B + 43)]))) 24 (.inl (cy 4, 8, .inr (.inr (.inr (.inr (va_up (va_up (va_up (va_up (va_up (va_up (va_up (va_up (fun _ => none) 0 (some (B + 28))) 1 (some (B + 30))) 2 (some (B + 32))) 3 (some (B + 34))) 4 (some (B + 36))) 5 (some (B + 38))) 6 (some (B + 40))) 7 (some (B + 42))))))))) 44 (.inr (9, [.int 0, .int 0, .int 0, .int 0, .null, .null]))) 45 (.inl (cy 2, 12, .inl (fun _ => 0)))) 44 (.inr (9, [.int 0, .int 0, .int 0, .int 0, .ref (B + 45), .null]))) 46 (.inl (cy 2, 12, .inl (fun _ => 0)))) 44 (.inr (9, [.int 0, .int 0, .int 0, .int 0, .ref (B + 45), .ref (B + 46)]))) 25 (.inl (cy 5, 9, .inr (.inr (.inr (.inr (va_up (fun _ => none) 0 (some (B + 44))))))))) 47 (.inr (9, [.int 0, .int 0, .int 0, .int 0, .null, .null]))) 48 (.inl (cy 2, 12, .inl (fun _ => 0)))) 47 (.inr (9, [.int 0, .int 0, .int 0, .int 0, .ref (B + 48), .null]))) 49 (.inl (cy 2, 12, .inl (fun _ => 0)))) 47 (.inr (9, [.int 0, .int 0, .int 0, .int 0, .ref (B + 48), .ref (B + 49)]))) 25 (.inl (cy 5, 9, .inr (.inr (.inr (.inr (va_up (va_up (fun _ => none) 0 (some (B + 44))) 1 (some (B + 47))))))))) 50 (.inr (9, [.int 0, .int 0, .int 0, .int 0, .null, .null]))) 51 (.inl (cy 2, 12, .inl (fun _ => 0)))) 50 (.inr (9, [.int 0, .int 0, .int 0, .int 0, .ref (B + 51), .null]))) 52 (.inl (cy 2, 12, .inl (fun _ => 0)))) 50 (.inr (9, [.int 0, .int 0, .int 0, .int 0, .ref (B + 51), .ref (B + 52)]))) 25 (.inl (cy 5, 9, .inr (.inr (.inr (.inr (va_up (va_up (va_up (fun _ => none) 0 (some (B + 44))) 1 (some (B + 47))) 2 (some (B + 50))))))))) 53 (.inr (9, [.int 0, .int 0, .int 0, .int 0, .null, .null]))) 54 (.inl (cy 2, 12, .inl (fun _ => 0)))) 53 (.inr (9, [.int 0, .int 0, .int 0, .int 0, .ref (B + 54), .null]))) 55 (.inl (cy 2, 12, .inl (fun _ => 0)))) 53 (.inr (9, [.int 0, .int 0, .int 0, .int 0, .ref (B + 54), .ref (B + 55)]))) 25 (.inl (cy 5, 9, .inr (.inr (.inr (.inr (va_up (va_up (va_up (va_up (fun _ => none) 0 (some (B + 44))) 1 (some (B + 47))) 2 (some (B + 50))) 3 (some (B + 53))))))))) 56 (.inr (9, [.int 0, .int 0, .int 0, .int 0, .null, .null]))) 57 (.inl (cy 2, 12, .inl (fun _ => 0)))) 56 (.inr (9, [.int 0, .int 0, .int 0, .int 0, .ref (B + 57), .null]))) 58 (.inl (cy 2, 12, .inl (fun _ => 0)))) 56 (.inr (9, [.int 0, .int 0, .int 0, .int 0, .ref (B + 57), .ref (B + 58)]))) 25 (.inl (cy 5, 9, .inr (.inr (.inr (.inr (va_up (va_up (va_up (va_up (va_up (fun _ => none) 0 (some (B + 44))) 1 (some (B + 47))) 2 (some (B + 50))) 3 (some (B + 53))) 4 (some (B + 56))))))))) 59 (.inr (9, [.int 0, .int 0, .int 0, .int 0, .null, .null]))) 60 (.inl (cy 2, 12, .inl (fun _ => 0)))) 59 (.inr (9, [.int 0, .int 0, .int 0, .int 0, .ref (B + 60), .null]))) 61 (.inl (cy 2, 12, .inl (fun _ => 0)))) 59 (.inr (9, [.int 0, .int 0, .int 0, .int 0, .ref (B + 60), .ref (B + 61)]))) 25 (.inl (cy 5, 9, .inr (.inr (.inr (.inr (va_up (va_up (va_up (va_up (va_up (va_up (fun _ => none) 0 (some (B + 44))) 1 (some (B + 47))) 2 (some (B + 50))) 3 (some (B + 53))) 4 (some (B + 56))) 5 (some (B + 59))))))))) 62 (.inr (9, [.int 0, .int 0, .int 0, .int 0, .null, .null]))) 63 (.inl (cy 2, 12, .inl (fun _ => 0)))) 62 (.inr (9, [.int 0, .int 0, .int 0, .int 0, .ref (B + 63), .null]))) 64 (.inl (cy 2, 12, .inl (fun _ => 0)))) 62 (.inr (9, [.int 0, .int 0, .int 0, .int 0, .ref (B + 63), .ref (B + 64)]))) 25 (.inl (cy 5, 9, .inr (.inr (.inr (.inr (va_up (va_up (va_up (va_up (va_up (va_up (va_up (fun _ => none) 0 (some (B + 44))) 1 (some (B + 47))) 2 (some (B + 50))) 3 (some (B + 53))) 4 (some (B + 56))) 5 (some (B + 59))) 6 (some (B + 62))))))))) 65 (.inr (9, [.int 0, .int 0, .int 0, .int 0, .null, .null]))) 66 (.inl (cy 2, 12, .inl (fun _ => 0)))) 65 (.inr (9, [.int 0, .int 0, .int 0, .int 0, .ref (B + 66), .null]))) 67 (.inl (cy 2, 12, .inl (fun _ => 0)))) 65 (.inr (9, [.int 0, .int 0, .int 0, .int 0, .ref (B + 66), .ref (B + 67)]))) 25 (.inl (cy 5, 9, .inr (.inr (.inr (.inr (va_up (va_up (va_up (va_up (va_up (va_up (va_up (va_up (fun _ => none) 0 (some (B + 44))) 1 (some (B + 47))) 2 (some (B + 50))) 3 (some (B + 53))) 4 (some (B + 56))) 5 (some (B + 59))) 6 (some (B + 62))) 7 (some (B + 65))))))))) 68 (.inr (9, [.int 0, .int 0, .int 0, .int 0, .null, .null]))) 69 (.inl (cy 2, 12, .inl (fun _ => 0)))) 68 (.inr (9, [.int 0, .int 0, .int 0, .int 0, .ref (B + 69), .null]))) 70 (.inl (cy 2, 12, .inl (fun _ => 0)))) 68 (.inr (9, [.int 0, .int 0, .int 0, .int 0, .ref (B + 69), .ref (B + 70)]))) 25 (.inl (cy 5, 9, .inr (.inr (.inr (.inr (va_up (va_up (va_up (va_up (va_up (va_up (va_up (va_up (va_up (fun _ => none) 0 (some (B + 44))) 1 (some (B + 47))) 2 (some (B + 50))) 3 (some (B + 53))) 4 (some (B + 56))) 5 (some (B + 59))) 6 (some (B + 62))) 7 (some (B + 65))) 8 (some (B + 68))))))))) 22 (.inr (0, [.ref (B + 23), .ref (B + 24), .int 0, .ref (B + 25), .ref (B + 44), .ref (B + 26), .ref (B + 27), .int 0]))) := by
  refine n_start (by decide) (Nat.le_of_ble_eq_true rfl) rfl ?_
  intro p e s m below meth c ls F hr hlocks hin w hl
  have F : CallFix p m c cX0_init 2 s _ TB RX0 := F
  have hx := F.1
  have hb := F.2.1
  have hl : lv_has ls 2 [(0, .ref (B + 22))] := hl
  refine lv_aload_n hx hb dX0_init_0 rfl (lv_at hl 0 rfl) ?_
  refine n_obj F hl.1 tb_747 tb_723 tk_obj dX0_init_1 (Nat.le_of_ble_eq_true rfl) (Nat.le_of_ble_eq_true rfl) ?_
  refine lv_aload_n hx hb dX0_init_4 rfl (lv_at hl 0 rfl) ?_
  refine n_new F w (C := RX1) (T := TX1) (N := 1) (ci := 1) (fs := [.int 0]) tyX1 tyX1_ok inT1 tb_748 tb_749 tb_76 rfl nf_1 (Nat.le_of_ble_eq_true rfl) (Nat.le_of_ble_eq_true rfl) (c1 := 1) (s1 := 1) (n1 := 24) rfl rfl rfl dX0_init_5 (fun H w => ?_)
  refine lv_dup hx hb dX0_init_8 rfl ?_
  refine n_callN F w (b := 23) (As := []) (rest := [.ref (B + 23), .ref (B + 22)]) (n_X1_init_12 (up_at)) gc_X1_init rfl tb_76 (by decide) tb_751 hs_X1_init ⟨(Nat.le_of_ble_eq_true rfl), (Nat.le_of_ble_eq_true rfl)⟩ hl.1 rfl (Nat.le_of_ble_eq_true rfl) ⟨(Nat.le_of_ble_eq_true rfl), (Nat.le_of_ble_eq_true rfl)⟩ (k1 := 1) (k2 := 1) rfl rfl dX0_init_9 (fun H locs w => ?_)
  refine n_putF F w (a := 22) (C := RX0) (T := TX0) (N := 8) (ci := 0) (k := 0) (x := .ref (B + 23)) (ty := .object "ToneLines$Doer") (fs1 := [.ref (B + 23), .null, .int 0, .null, .null, .null, .null, .int 0]) tyX0 tyX0_ok nmX0 (by decide) ((up_ne (by decide)).trans h0) rfl rfl inT0 (by decide) rfl tb_194 rfl hin rfl (by decide +kernel) rfl rfl (Nat.le_of_ble_eq_true rfl) dX0_init_12 (fun H locs w => ?_)
  refine lv_aload_n hx hb dX0_init_15 rfl (lv_at hl 0 rfl) ?_
  refine lv_bipush (v := 8) hx hb dX0_init_16 (by decide) ?_
  refine n_newq F w (t := 4) (N := 8) (cA := cy 4) (C := "ToneLines$Rule") w.2.2.2.2.2.1.1 tb_752 rfl (by decide) (by decide) (Nat.le_of_ble_eq_true rfl) (Nat.le_of_ble_eq_true rfl) (Nat.le_of_ble_eq_true rfl) (c1 := 2) (s1 := 9) (n1 := 25) rfl rfl rfl dX0_init_18 (fun H w => ?_)
  refine n_putF F w (a := 22) (C := RX0) (T := TX0) (N := 8) (ci := 0) (k := 1) (x := .ref (B + 24)) (ty := .array (.object "ToneLines$Rule")) (fs1 := [.ref (B + 23), .ref (B + 24), .int 0, .null, .null, .null, .null, .int 0]) tyX0 tyX0_ok nmX0 (by decide) ((up_ne (by decide)).trans up_at) rfl rfl inT0 (by decide) rfl tb_180 rfl hin rfl (by decide +kernel) rfl rfl (Nat.le_of_ble_eq_true rfl) dX0_init_21 (fun H locs w => ?_)
  refine lv_aload_n hx hb dX0_init_24 rfl (lv_at hl 0 rfl) ?_
  refine lv_iconst (v := 0) hx hb dX0_init_25 (by decide) ?_
  refine n_put F w (a := 22) (C := RX0) (T := TX0) (N := 8) (ci := 0) (k := 2) (x := .int 0) (ty := .int) (fs1 := [.ref (B + 23), .ref (B + 24), .int 0, .null, .null, .null, .null, .int 0]) tyX0 tyX0_ok nmX0 (by decide) (up_at) rfl rfl inT0 (by decide) rfl tb_176 rfl (by decide +kernel) rfl rfl (Nat.le_of_ble_eq_true rfl) dX0_init_26 (fun H locs w => ?_)
  rw [up_same (up_at)] at w
  refine lv_aload_n hx hb dX0_init_29 rfl (lv_at hl 0 rfl) ?_
  refine lv_bipush (v := 9) hx hb dX0_init_30 (by decide) ?_
  refine n_newq F w (t := 5) (N := 9) (cA := cy 5) (C := "ToneLines$Word") w.2.2.2.2.2.1.2 tb_753 rfl (by decide) (by decide) (Nat.le_of_ble_eq_true rfl) (Nat.le_of_ble_eq_true rfl) (Nat.le_of_ble_eq_true rfl) (c1 := 3) (s1 := 18) (n1 := 26) rfl rfl rfl dX0_init_32 (fun H w => ?_)
  refine n_putF F w (a := 22) (C := RX0) (T := TX0) (N := 8) (ci := 0) (k := 3) (x := .ref (B + 25)) (ty := .array (.object "ToneLines$Word")) (fs1 := [.ref (B + 23), .ref (B + 24), .int 0, .ref (B + 25), .null, .null, .null, .int 0]) tyX0 tyX0_ok nmX0 (by decide) ((up_ne (by decide)).trans up_at) rfl rfl inT0 (by decide) rfl tb_189 rfl hin rfl (by decide +kernel) rfl rfl (Nat.le_of_ble_eq_true rfl) dX0_init_35 (fun H locs w => ?_)
  refine lv_aload_n hx hb dX0_init_38 rfl (lv_at hl 0 rfl) ?_
  refine lv_bipush (v := 8) hx hb dX0_init_39 (by decide) ?_
  refine n_newa F w (atype := .int) (ty := .int) (t := 2) (N := 8) (cA := cy 2) (a0 := (8, .inl (fun _ => 0))) tb_741 rfl (fun _ h => h) rfl (fun _ => rfl) (by decide) (by decide) (Nat.le_of_ble_eq_true rfl) (Nat.le_of_ble_eq_true rfl) (Nat.le_of_ble_eq_true rfl) (c1 := 4) (s1 := 26) (n1 := 27) rfl rfl rfl dX0_init_41 (fun H w => ?_)
  refine n_putF F w (a := 22) (C := RX0) (T := TX0) (N := 8) (ci := 0) (k := 5) (x := .ref (B + 26)) (ty := .array .int) (fs1 := [.ref (B + 23), .ref (B + 24), .int 0, .ref (B + 25), .null, .ref (B + 26), .null, .int 0]) tyX0 tyX0_ok nmX0 (by decide) ((up_ne (by decide)).trans up_at) rfl rfl inT0 (by decide) rfl tb_193 rfl hin rfl (by decide +kernel) rfl rfl (Nat.le_of_ble_eq_true rfl) dX0_init_43 (fun H locs w => ?_)
  refine lv_aload_n hx hb dX0_init_46 rfl (lv_at hl 0 rfl) ?_
  refine lv_bipush (v := 8) hx hb dX0_init_47 (by decide) ?_
  refine n_newa F w (atype := .int) (ty := .int) (t := 2) (N := 8) (cA := cy 2) (a0 := (8, .inl (fun _ => 0))) tb_741 rfl (fun _ h => h) rfl (fun _ => rfl) (by decide) (by decide) (Nat.le_of_ble_eq_true rfl) (Nat.le_of_ble_eq_true rfl) (Nat.le_of_ble_eq_true rfl) (c1 := 5) (s1 := 34) (n1 := 28) rfl rfl rfl dX0_init_49 (fun H w => ?_)
  refine n_putF F w (a := 22) (C := RX0) (T := TX0) (N := 8) (ci := 0) (k := 6) (x := .ref (B + 27)) (ty := .array .int) (fs1 := [.ref (B + 23), .ref (B + 24), .int 0, .ref (B + 25), .null, .ref (B + 26), .ref (B + 27), .int 0]) tyX0 tyX0_ok nmX0 (by decide) ((up_ne (by decide)).trans up_at) rfl rfl inT0 (by decide) rfl tb_198 rfl hin rfl (by decide +kernel) rfl rfl (Nat.le_of_ble_eq_true rfl) dX0_init_51 (fun H locs w => ?_)
  refine lv_aload_n hx hb dX0_init_54 rfl (lv_at hl 0 rfl) ?_
  refine lv_iconst (v := 0) hx hb dX0_init_55 (by decide) ?_
  refine n_put F w (a := 22) (C := RX0) (T := TX0) (N := 8) (ci := 0) (k := 7) (x := .int 0) (ty := .int) (fs1 := [.ref (B + 23), .ref (B + 24), .int 0, .ref (B + 25), .null, .ref (B + 26), .ref (B + 27), .int 0]) tyX0 tyX0_ok nmX0 (by decide) (up_at) rfl rfl inT0 (by decide) rfl tb_188 rfl (by decide +kernel) rfl rfl (Nat.le_of_ble_eq_true rfl) dX0_init_56 (fun H locs w => ?_)
  rw [up_same (up_at)] at w
  refine lv_iconst (v := 0) hx hb dX0_init_59 (by decide) ?_
  refine lv_istore_n (lv' := [(1, .int 0), (0, .ref (B + 22))]) hx hb dX0_init_60 rfl hl (by decide) rfl (fun ls hl => ?_)
  refine lv_iload_n hx hb dX0_init_61 rfl (lv_at hl 0 rfl) ?_
  refine lv_bipush (v := 8) hx hb dX0_init_62 (by decide) ?_
  refine lv_icmp_ge (tgt := 86) hx hb dX0_init_64 (by decide) (fun c1 => absurd c1 (by decide)) (fun _ => ?_)
  refine lv_aload_n hx hb dX0_init_67 rfl (lv_at hl 1 rfl) ?_
  refine n_get F w (a := 22) (C := RX0) (T := TX0) (N := 8) (ci := 0) (k := 1) (by decide) (up_at) rfl inT0 (by decide) rfl tb_180 rfl dX0_init_68 ?_
  refine lv_iload_n hx hb dX0_init_71 rfl (lv_at hl 0 rfl) ?_
  refine n_new F w (C := RX4) (T := TX4) (N := 1) (ci := 4) (fs := [.null]) tyX4 tyX4_ok inT4 tb_752 tb_739 tb_121 rfl nf_4 (Nat.le_of_ble_eq_true rfl) (Nat.le_of_ble_eq_true rfl) (c1 := 6) (s1 := 35) (n1 := 29) rfl rfl rfl dX0_init_72 (fun H w => ?_)
  refine lv_dup hx hb dX0_init_75 rfl ?_
  refine n_callN F w (b := 28) (As := []) (rest := [.ref (B + 28), .int 0, .ref (B + 24)]) (n_X4_init_13 (up_at)) gc_X4_init rfl tb_121 (by decide) tb_742 hs_X4_init ⟨(Nat.le_of_ble_eq_true rfl), (Nat.le_of_ble_eq_true rfl)⟩ hl.1 rfl (Nat.le_of_ble_eq_true rfl) ⟨(Nat.le_of_ble_eq_true rfl), (Nat.le_of_ble_eq_true rfl)⟩ (k1 := 7) (k2 := 43) rfl rfl dX0_init_76 (fun H locs w => ?_)
  refine n_ast F w (a := 24) (v := 28) (j := 0) (t := 4) (ci := 4) (by decide) (by decide) ((up_ne (by decide)).trans ((up_ne (by decide)).trans ((up_ne (by decide)).trans ((up_ne (by decide)).trans ((up_ne (by decide)).trans ((up_ne (by decide)).trans ((up_ne (by decide)).trans ((up_ne (by decide)).trans ((up_ne (by decide)).trans ((up_ne (by decide)).trans up_at)))))))))) rfl (up_at) rfl ⟨by decide, by decide⟩ (by decide) dX0_init_79 (fun H locs w => ?_)
  refine lv_iinc (v := 1) (lv' := [(1, .int 1), (0, .ref (B + 22))]) hx hb dX0_init_80 hl (k := 0) rfl (by decide) (by decide) rfl (fun ls hl => ?_)
  refine lv_goto (tgt := 61) hx hb dX0_init_83 (by decide) ?_
  refine lv_iload_n hx hb dX0_init_61 rfl (lv_at hl 0 rfl) ?_
  refine lv_bipush (v := 8) hx hb dX0_init_62 (by decide) ?_
  refine lv_icmp_ge (tgt := 86) hx hb dX0_init_64 (by decide) (fun c1 => absurd c1 (by decide)) (fun _ => ?_)
  refine lv_aload_n hx hb dX0_init_67 rfl (lv_at hl 1 rfl) ?_
  refine n_get F w (a := 22) (C := RX0) (T := TX0) (N := 8) (ci := 0) (k := 1) (by decide) ((up_ne (by decide)).trans ((up_ne (by decide)).trans ((up_ne (by decide)).trans ((up_ne (by decide)).trans up_at)))) rfl inT0 (by decide) rfl tb_180 rfl dX0_init_68 ?_
  refine lv_iload_n hx hb dX0_init_71 rfl (lv_at hl 0 rfl) ?_
  refine n_new F w (C := RX4) (T := TX4) (N := 1) (ci := 4) (fs := [.null]) tyX4 tyX4_ok inT4 tb_752 tb_739 tb_121 rfl nf_4 (Nat.le_of_ble_eq_true rfl) (Nat.le_of_ble_eq_true rfl) (c1 := 8) (s1 := 44) (n1 := 31) rfl rfl rfl dX0_init_72 (fun H w => ?_)
  refine lv_dup hx hb dX0_init_75 rfl ?_
  refine n_callN F w (b := 30) (As := []) (rest := [.ref (B + 30), .int 1, .ref (B + 24)]) (n_X4_init_14 (up_at)) gc_X4_init rfl tb_121 (by decide) tb_742 hs_X4_init ⟨(Nat.le_of_ble_eq_true rfl), (Nat.le_of_ble_eq_true rfl)⟩ hl.1 rfl (Nat.le_of_ble_eq_true rfl) ⟨(Nat.le_of_ble_eq_true rfl), (Nat.le_of_ble_eq_true rfl)⟩ (k1 := 9) (k2 := 52) rfl rfl dX0_init_76 (fun H locs w => ?_)
  refine n_ast F w (a := 24) (v := 30) (j := 1) (t := 4) (ci := 4) (by decide) (by decide) ((up_ne (by decide)).trans ((up_ne (by decide)).trans ((up_ne (by decide)).trans up_at))) rfl (up_at) rfl ⟨by decide, by decide⟩ (by decide) dX0_init_79 (fun H locs w => ?_)
  refine lv_iinc (v := 2) (lv' := [(1, .int 2), (0, .ref (B + 22))]) hx hb dX0_init_80 hl (k := 0) rfl (by decide) (by decide) rfl (fun ls hl => ?_)
  refine lv_goto (tgt := 61) hx hb dX0_init_83 (by decide) ?_
  refine lv_iload_n hx hb dX0_init_61 rfl (lv_at hl 0 rfl) ?_
  refine lv_bipush (v := 8) hx hb dX0_init_62 (by decide) ?_
  refine lv_icmp_ge (tgt := 86) hx hb dX0_init_64 (by decide) (fun c1 => absurd c1 (by decide)) (fun _ => ?_)
  refine lv_aload_n hx hb dX0_init_67 rfl (lv_at hl 1 rfl) ?_
  refine n_get F w (a := 22) (C := RX0) (T := TX0) (N := 8) (ci := 0) (k := 1) (by decide) ((up_ne (by decide)).trans ((up_ne (by decide)).trans ((up_ne (by decide)).trans ((up_ne (by decide)).trans ((up_ne (by decide)).trans ((up_ne (by decide)).trans ((up_ne (by decide)).trans ((up_ne (by decide)).trans up_at)))))))) rfl inT0 (by decide) rfl tb_180 rfl dX0_init_68 ?_
  refine lv_iload_n hx hb dX0_init_71 rfl (lv_at hl 0 rfl) ?_
  refine n_new F w (C := RX4) (T := TX4) (N := 1) (ci := 4) (fs := [.null]) tyX4 tyX4_ok inT4 tb_752 tb_739 tb_121 rfl nf_4 (Nat.le_of_ble_eq_true rfl) (Nat.le_of_ble_eq_true rfl) (c1 := 10) (s1 := 53) (n1 := 33) rfl rfl rfl dX0_init_72 (fun H w => ?_)
  refine lv_dup hx hb dX0_init_75 rfl ?_
  refine n_callN F w (b := 32) (As := []) (rest := [.ref (B + 32), .int 2, .ref (B + 24)]) (n_X4_init_15 (up_at)) gc_X4_init rfl tb_121 (by decide) tb_742 hs_X4_init ⟨(Nat.le_of_ble_eq_true rfl), (Nat.le_of_ble_eq_true rfl)⟩ hl.1 rfl (Nat.le_of_ble_eq_true rfl) ⟨(Nat.le_of_ble_eq_true rfl), (Nat.le_of_ble_eq_true rfl)⟩ (k1 := 11) (k2 := 61) rfl rfl dX0_init_76 (fun H locs w => ?_)
  refine n_ast F w (a := 24) (v := 32) (j := 2) (t := 4) (ci := 4) (by decide) (by decide) ((up_ne (by decide)).trans ((up_ne (by decide)).trans ((up_ne (by decide)).trans up_at))) rfl (up_at) rfl ⟨by decide, by decide⟩ (by decide) dX0_init_79 (fun H locs w => ?_)
  refine lv_iinc (v := 3) (lv' := [(1, .int 3), (0, .ref (B + 22))]) hx hb dX0_init_80 hl (k := 0) rfl (by decide) (by decide) rfl (fun ls hl => ?_)
  refine lv_goto (tgt := 61) hx hb dX0_init_83 (by decide) ?_
  refine lv_iload_n hx hb dX0_init_61 rfl (lv_at hl 0 rfl) ?_
  refine lv_bipush (v := 8) hx hb dX0_init_62 (by decide) ?_
  refine lv_icmp_ge (tgt := 86) hx hb dX0_init_64 (by decide) (fun c1 => absurd c1 (by decide)) (fun _ => ?_)
  refine lv_aload_n hx hb dX0_init_67 rfl (lv_at hl 1 rfl) ?_
  refine n_get F w (a := 22) (C := RX0) (T := TX0) (N := 8) (ci := 0) (k := 1) (by decide) ((up_ne (by decide)).trans ((up_ne (by decide)).trans ((up_ne (by decide)).trans ((up_ne (by decide)).trans ((up_ne (by decide)).trans ((up_ne (by decide)).trans ((up_ne (by decide)).trans ((up_ne (by decide)).trans ((up_ne (by decide)).trans ((up_ne (by decide)).trans ((up_ne (by decide)).trans ((up_ne (by decide)).trans up_at)))))))))))) rfl inT0 (by decide) rfl tb_180 rfl dX0_init_68 ?_
  refine lv_iload_n hx hb dX0_init_71 rfl (lv_at hl 0 rfl) ?_
  refine n_new F w (C := RX4) (T := TX4) (N := 1) (ci := 4) (fs := [.null]) tyX4 tyX4_ok inT4 tb_752 tb_739 tb_121 rfl nf_4 (Nat.le_of_ble_eq_true rfl) (Nat.le_of_ble_eq_true rfl) (c1 := 12) (s1 := 62) (n1 := 35) rfl rfl rfl dX0_init_72 (fun H w => ?_)
  refine lv_dup hx hb dX0_init_75 rfl ?_
  refine n_callN F w (b := 34) (As := []) (rest := [.ref (B + 34), .int 3, .ref (B + 24)]) (n_X4_init_16 (up_at)) gc_X4_init rfl tb_121 (by decide) tb_742 hs_X4_init ⟨(Nat.le_of_ble_eq_true rfl), (Nat.le_of_ble_eq_true rfl)⟩ hl.1 rfl (Nat.le_of_ble_eq_true rfl) ⟨(Nat.le_of_ble_eq_true rfl), (Nat.le_of_ble_eq_true rfl)⟩ (k1 := 13) (k2 := 70) rfl rfl dX0_init_76 (fun H locs w => ?_)
  refine n_ast F w (a := 24) (v := 34) (j := 3) (t := 4) (ci := 4) (by decide) (by decide) ((up_ne (by decide)).trans ((up_ne (by decide)).trans ((up_ne (by decide)).trans up_at))) rfl (up_at) rfl ⟨by decide, by decide⟩ (by decide) dX0_init_79 (fun H locs w => ?_)
  refine lv_iinc (v := 4) (lv' := [(1, .int 4), (0, .ref (B + 22))]) hx hb dX0_init_80 hl (k := 0) rfl (by decide) (by decide) rfl (fun ls hl => ?_)
  refine lv_goto (tgt := 61) hx hb dX0_init_83 (by decide) ?_
  refine lv_iload_n hx hb dX0_init_61 rfl (lv_at hl 0 rfl) ?_
  refine lv_bipush (v := 8) hx hb dX0_init_62 (by decide) ?_
  refine lv_icmp_ge (tgt := 86) hx hb dX0_init_64 (by decide) (fun c1 => absurd c1 (by decide)) (fun _ => ?_)
  refine lv_aload_n hx hb dX0_init_67 rfl (lv_at hl 1 rfl) ?_
  refine n_get F w (a := 22) (C := RX0) (T := TX0) (N := 8) (ci := 0) (k := 1) (by decide) ((up_ne (by decide)).trans ((up_ne (by decide)).trans ((up_ne (by decide)).trans ((up_ne (by decide)).trans ((up_ne (by decide)).trans ((up_ne (by decide)).trans ((up_ne (by decide)).trans ((up_ne (by decide)).trans ((up_ne (by decide)).trans ((up_ne (by decide)).trans ((up_ne (by decide)).trans ((up_ne (by decide)).trans ((up_ne (by decide)).trans ((up_ne (by decide)).trans ((up_ne (by decide)).trans ((up_ne (by decide)).trans up_at)))))))))))))))) rfl inT0 (by decide) rfl tb_180 rfl dX0_init_68 ?_
  refine lv_iload_n hx hb dX0_init_71 rfl (lv_at hl 0 rfl) ?_
  refine n_new F w (C := RX4) (T := TX4) (N := 1) (ci := 4) (fs := [.null]) tyX4 tyX4_ok inT4 tb_752 tb_739 tb_121 rfl nf_4 (Nat.le_of_ble_eq_true rfl) (Nat.le_of_ble_eq_true rfl) (c1 := 14) (s1 := 71) (n1 := 37) rfl rfl rfl dX0_init_72 (fun H w => ?_)
  refine lv_dup hx hb dX0_init_75 rfl ?_
  refine n_callN F w (b := 36) (As := []) (rest := [.ref (B + 36), .int 4, .ref (B + 24)]) (n_X4_init_17 (up_at)) gc_X4_init rfl tb_121 (by decide) tb_742 hs_X4_init ⟨(Nat.le_of_ble_eq_true rfl), (Nat.le_of_ble_eq_true rfl)⟩ hl.1 rfl (Nat.le_of_ble_eq_true rfl) ⟨(Nat.le_of_ble_eq_true rfl), (Nat.le_of_ble_eq_true rfl)⟩ (k1 := 15) (k2 := 79) rfl rfl dX0_init_76 (fun H locs w => ?_)
  refine n_ast F w (a := 24) (v := 36) (j := 4) (t := 4) (ci := 4) (by decide) (by decide) ((up_ne (by decide)).trans ((up_ne (by decide)).trans ((up_ne (by decide)).trans up_at))) rfl (up_at) rfl ⟨by decide, by decide⟩ (by decide) dX0_init_79 (fun H locs w => ?_)
  refine lv_iinc (v := 5) (lv' := [(1, .int 5), (0, .ref (B + 22))]) hx hb dX0_init_80 hl (k := 0) rfl (by decide) (by decide) rfl (fun ls hl => ?_)
  refine lv_goto (tgt := 61) hx hb dX0_init_83 (by decide) ?_
  refine lv_iload_n hx hb dX0_init_61 rfl (lv_at hl 0 rfl) ?_
  refine lv_bipush (v := 8) hx hb dX0_init_62 (by decide) ?_
  refine lv_icmp_ge (tgt := 86) hx hb dX0_init_64 (by decide) (fun c1 => absurd c1 (by decide)) (fun _ => ?_)
  refine lv_aload_n hx hb dX0_init_67 rfl (lv_at hl 1 rfl) ?_
  refine n_get F w (a := 22) (C := RX0) (T := TX0) (N := 8) (ci := 0) (k := 1) (by decide) ((up_ne (by decide)).trans ((up_ne (by decide)).trans ((up_ne (by decide)).trans ((up_ne (by decide)).trans ((up_ne (by decide)).trans ((up_ne (by decide)).trans ((up_ne (by decide)).trans ((up_ne (by decide)).trans ((up_ne (by decide)).trans ((up_ne (by decide)).trans ((up_ne (by decide)).trans ((up_ne (by decide)).trans ((up_ne (by decide)).trans ((up_ne (by decide)).trans ((up_ne (by decide)).trans ((up_ne (by decide)).trans ((up_ne (by decide)).trans ((up_ne (by decide)).trans ((up_ne (by decide)).trans ((up_ne (by decide)).trans up_at)))))))))))))))))))) rfl inT0 (by decide) rfl tb_180 rfl dX0_init_68 ?_
  refine lv_iload_n hx hb dX0_init_71 rfl (lv_at hl 0 rfl) ?_
  refine n_new F w (C := RX4) (T := TX4) (N := 1) (ci := 4) (fs := [.null]) tyX4 tyX4_ok inT4 tb_752 tb_739 tb_121 rfl nf_4 (Nat.le_of_ble_eq_true rfl) (Nat.le_of_ble_eq_true rfl) (c1 := 16) (s1 := 80) (n1 := 39) rfl rfl rfl dX0_init_72 (fun H w => ?_)
  refine lv_dup hx hb dX0_init_75 rfl ?_
  refine n_callN F w (b := 38) (As := []) (rest := [.ref (B + 38), .int 5, .ref (B + 24)]) (n_X4_init_18 (up_at)) gc_X4_init rfl tb_121 (by decide) tb_742 hs_X4_init ⟨(Nat.le_of_ble_eq_true rfl), (Nat.le_of_ble_eq_true rfl)⟩ hl.1 rfl (Nat.le_of_ble_eq_true rfl) ⟨(Nat.le_of_ble_eq_true rfl), (Nat.le_of_ble_eq_true rfl)⟩ (k1 := 17) (k2 := 88) rfl rfl dX0_init_76 (fun H locs w => ?_)
  refine n_ast F w (a := 24) (v := 38) (j := 5) (t := 4) (ci := 4) (by decide) (by decide) ((up_ne (by decide)).trans ((up_ne (by decide)).trans ((up_ne (by decide)).trans up_at))) rfl (up_at) rfl ⟨by decide, by decide⟩ (by decide) dX0_init_79 (fun H locs w => ?_)
  refine lv_iinc (v := 6) (lv' := [(1, .int 6), (0, .ref (B + 22))]) hx hb dX0_init_80 hl (k := 0) rfl (by decide) (by decide) rfl (fun ls hl => ?_)
  refine lv_goto (tgt := 61) hx hb dX0_init_83 (by decide) ?_
  refine lv_iload_n hx hb dX0_init_61 rfl (lv_at hl 0 rfl) ?_
  refine lv_bipush (v := 8) hx hb dX0_init_62 (by decide) ?_
  refine lv_icmp_ge (tgt := 86) hx hb dX0_init_64 (by decide) (fun c1 => absurd c1 (by decide)) (fun _ => ?_)
  refine lv_aload_n hx hb dX0_init_67 rfl (lv_at hl 1 rfl) ?_
  refine n_get F w (a := 22) (C := RX0) (T := TX0) (N := 8) (ci := 0) (k := 1) (by decide) ((up_ne (by decide)).trans ((up_ne (by decide)).trans ((up_ne (by decide)).trans ((up_ne (by decide)).trans ((up_ne (by decide)).trans ((up_ne (by decide)).trans ((up_ne (by decide)).trans ((up_ne (by decide)).trans ((up_ne (by decide)).trans ((up_ne (by decide)).trans ((up_ne (by decide)).trans ((up_ne (by decide)).trans ((up_ne (by decide)).trans ((up_ne (by decide)).trans ((up_ne (by decide)).trans ((up_ne (by decide)).trans ((up_ne (by decide)).trans ((up_ne (by decide)).trans ((up_ne (by decide)).trans ((up_ne (by decide)).trans ((up_ne (by decide)).trans ((up_ne (by decide)).trans ((up_ne (by decide)).trans ((up_ne (by decide)).trans up_at)))))))))))))))))))))))) rfl inT0 (by decide) rfl tb_180 rfl dX0_init_68 ?_
  refine lv_iload_n hx hb dX0_init_71 rfl (lv_at hl 0 rfl) ?_
  refine n_new F w (C := RX4) (T := TX4) (N := 1) (ci := 4) (fs := [.null]) tyX4 tyX4_ok inT4 tb_752 tb_739 tb_121 rfl nf_4 (Nat.le_of_ble_eq_true rfl) (Nat.le_of_ble_eq_true rfl) (c1 := 18) (s1 := 89) (n1 := 41) rfl rfl rfl dX0_init_72 (fun H w => ?_)
  refine lv_dup hx hb dX0_init_75 rfl ?_
  refine n_callN F w (b := 40) (As := []) (rest := [.ref (B + 40), .int 6, .ref (B + 24)]) (n_X4_init_19 (up_at)) gc_X4_init rfl tb_121 (by decide) tb_742 hs_X4_init ⟨(Nat.le_of_ble_eq_true rfl), (Nat.le_of_ble_eq_true rfl)⟩ hl.1 rfl (Nat.le_of_ble_eq_true rfl) ⟨(Nat.le_of_ble_eq_true rfl), (Nat.le_of_ble_eq_true rfl)⟩ (k1 := 19) (k2 := 97) rfl rfl dX0_init_76 (fun H locs w => ?_)
  refine n_ast F w (a := 24) (v := 40) (j := 6) (t := 4) (ci := 4) (by decide) (by decide) ((up_ne (by decide)).trans ((up_ne (by decide)).trans ((up_ne (by decide)).trans up_at))) rfl (up_at) rfl ⟨by decide, by decide⟩ (by decide) dX0_init_79 (fun H locs w => ?_)
  refine lv_iinc (v := 7) (lv' := [(1, .int 7), (0, .ref (B + 22))]) hx hb dX0_init_80 hl (k := 0) rfl (by decide) (by decide) rfl (fun ls hl => ?_)
  refine lv_goto (tgt := 61) hx hb dX0_init_83 (by decide) ?_
  refine lv_iload_n hx hb dX0_init_61 rfl (lv_at hl 0 rfl) ?_
  refine lv_bipush (v := 8) hx hb dX0_init_62 (by decide) ?_
  refine lv_icmp_ge (tgt := 86) hx hb dX0_init_64 (by decide) (fun c1 => absurd c1 (by decide)) (fun _ => ?_)
  refine lv_aload_n hx hb dX0_init_67 rfl (lv_at hl 1 rfl) ?_
  refine n_get F w (a := 22) (C := RX0) (T := TX0) (N := 8) (ci := 0) (k := 1) (by decide) ((up_ne (by decide)).trans ((up_ne (by decide)).trans ((up_ne (by decide)).trans ((up_ne (by decide)).trans ((up_ne (by decide)).trans ((up_ne (by decide)).trans ((up_ne (by decide)).trans ((up_ne (by decide)).trans ((up_ne (by decide)).trans ((up_ne (by decide)).trans ((up_ne (by decide)).trans ((up_ne (by decide)).trans ((up_ne (by decide)).trans ((up_ne (by decide)).trans ((up_ne (by decide)).trans ((up_ne (by decide)).trans ((up_ne (by decide)).trans ((up_ne (by decide)).trans ((up_ne (by decide)).trans ((up_ne (by decide)).trans ((up_ne (by decide)).trans ((up_ne (by decide)).trans ((up_ne (by decide)).trans ((up_ne (by decide)).trans ((up_ne (by decide)).trans ((up_ne (by decide)).trans ((up_ne (by decide)).trans ((up_ne (by decide)).trans up_at)))))))))))))))))))))))))))) rfl inT0 (by decide) rfl tb_180 rfl dX0_init_68 ?_
  refine lv_iload_n hx hb dX0_init_71 rfl (lv_at hl 0 rfl) ?_
  refine n_new F w (C := RX4) (T := TX4) (N := 1) (ci := 4) (fs := [.null]) tyX4 tyX4_ok inT4 tb_752 tb_739 tb_121 rfl nf_4 (Nat.le_of_ble_eq_true rfl) (Nat.le_of_ble_eq_true rfl) (c1 := 20) (s1 := 98) (n1 := 43) rfl rfl rfl dX0_init_72 (fun H w => ?_)
  refine lv_dup hx hb dX0_init_75 rfl ?_
  refine n_callN F w (b := 42) (As := []) (rest := [.ref (B + 42), .int 7, .ref (B + 24)]) (n_X4_init_20 (up_at)) gc_X4_init rfl tb_121 (by decide) tb_742 hs_X4_init ⟨(Nat.le_of_ble_eq_true rfl), (Nat.le_of_ble_eq_true rfl)⟩ hl.1 rfl (Nat.le_of_ble_eq_true rfl) ⟨(Nat.le_of_ble_eq_true rfl), (Nat.le_of_ble_eq_true rfl)⟩ (k1 := 21) (k2 := 106) rfl rfl dX0_init_76 (fun H locs w => ?_)
  refine n_ast F w (a := 24) (v := 42) (j := 7) (t := 4) (ci := 4) (by decide) (by decide) ((up_ne (by decide)).trans ((up_ne (by decide)).trans ((up_ne (by decide)).trans up_at))) rfl (up_at) rfl ⟨by decide, by decide⟩ (by decide) dX0_init_79 (fun H locs w => ?_)
  refine lv_iinc (v := 8) (lv' := [(1, .int 8), (0, .ref (B + 22))]) hx hb dX0_init_80 hl (k := 0) rfl (by decide) (by decide) rfl (fun ls hl => ?_)
  refine lv_goto (tgt := 61) hx hb dX0_init_83 (by decide) ?_
  refine lv_iload_n hx hb dX0_init_61 rfl (lv_at hl 0 rfl) ?_
  refine lv_bipush (v := 8) hx hb dX0_init_62 (by decide) ?_
  refine lv_icmp_ge (tgt := 86) hx hb dX0_init_64 (by decide) (fun _ => ?_) (fun c1 => absurd c1 (by decide))
  refine lv_iconst (v := 0) hx hb dX0_init_86 (by decide) ?_
  refine lv_istore_n (lv' := [(1, .int 0), (0, .ref (B + 22))]) hx hb dX0_init_87 rfl hl (by decide) rfl (fun ls hl => ?_)
  refine lv_iload_n hx hb dX0_init_88 rfl (lv_at hl 0 rfl) ?_
  refine lv_bipush (v := 8) hx hb dX0_init_89 (by decide) ?_
  refine lv_icmp_gt (tgt := 113) hx hb dX0_init_91 (by decide) (fun c1 => absurd c1 (by decide)) (fun _ => ?_)
  refine lv_aload_n hx hb dX0_init_94 rfl (lv_at hl 1 rfl) ?_
  refine n_get F w (a := 22) (C := RX0) (T := TX0) (N := 8) (ci := 0) (k := 3) (by decide) ((up_ne (by decide)).trans ((up_ne (by decide)).trans ((up_ne (by decide)).trans ((up_ne (by decide)).trans ((up_ne (by decide)).trans ((up_ne (by decide)).trans ((up_ne (by decide)).trans ((up_ne (by decide)).trans ((up_ne (by decide)).trans ((up_ne (by decide)).trans ((up_ne (by decide)).trans ((up_ne (by decide)).trans ((up_ne (by decide)).trans ((up_ne (by decide)).trans ((up_ne (by decide)).trans ((up_ne (by decide)).trans ((up_ne (by decide)).trans ((up_ne (by decide)).trans ((up_ne (by decide)).trans ((up_ne (by decide)).trans ((up_ne (by decide)).trans ((up_ne (by decide)).trans ((up_ne (by decide)).trans ((up_ne (by decide)).trans ((up_ne (by decide)).trans ((up_ne (by decide)).trans ((up_ne (by decide)).trans ((up_ne (by decide)).trans ((up_ne (by decide)).trans ((up_ne (by decide)).trans ((up_ne (by decide)).trans ((up_ne (by decide)).trans up_at)))))))))))))))))))))))))))))))) rfl inT0 (by decide) rfl tb_189 rfl dX0_init_95 ?_
  refine lv_iload_n hx hb dX0_init_98 rfl (lv_at hl 0 rfl) ?_
  refine n_new F w (C := RX9) (T := TX9) (N := 6) (ci := 9) (fs := [.int 0, .int 0, .int 0, .int 0, .null, .null]) tyX9 tyX9_ok inT9 tb_753 tb_754 tb_5 rfl nf_9 (Nat.le_of_ble_eq_true rfl) (Nat.le_of_ble_eq_true rfl) (c1 := 22) (s1 := 112) (n1 := 45) rfl rfl rfl dX0_init_99 (fun H w => ?_)
  refine lv_dup hx hb dX0_init_102 rfl ?_
  refine n_callN F w (b := 44) (As := []) (rest := [.ref (B + 44), .int 0, .ref (B + 25)]) (n_X9_init_21 (up_at)) gc_X9_init rfl tb_5 (by decide) tb_756 hs_X9_init ⟨(Nat.le_of_ble_eq_true rfl), (Nat.le_of_ble_eq_true rfl)⟩ hl.1 rfl (Nat.le_of_ble_eq_true rfl) ⟨(Nat.le_of_ble_eq_true rfl), (Nat.le_of_ble_eq_true rfl)⟩ (k1 := 24) (k2 := 136) rfl rfl dX0_init_103 (fun H locs w => ?_)
  refine n_ast F w (a := 25) (v := 44) (j := 0) (t := 5) (ci := 9) (by decide) (by decide) ((up_ne (by decide)).trans ((up_ne (by decide)).trans ((up_ne (by decide)).trans ((up_ne (by decide)).trans ((up_ne (by decide)).trans ((up_ne (by decide)).trans ((up_ne (by decide)).trans ((up_ne (by decide)).trans ((up_ne (by decide)).trans ((up_ne (by decide)).trans ((up_ne (by decide)).trans ((up_ne (by decide)).trans ((up_ne (by decide)).trans ((up_ne (by decide)).trans ((up_ne (by decide)).trans ((up_ne (by decide)).trans ((up_ne (by decide)).trans ((up_ne (by decide)).trans ((up_ne (by decide)).trans ((up_ne (by decide)).trans ((up_ne (by decide)).trans ((up_ne (by decide)).trans ((up_ne (by decide)).trans ((up_ne (by decide)).trans ((up_ne (by decide)).trans ((up_ne (by decide)).trans ((up_ne (by decide)).trans ((up_ne (by decide)).trans ((up_ne (by decide)).trans ((up_ne (by decide)).trans ((up_ne (by decide)).trans ((up_ne (by decide)).trans ((up_ne (by decide)).trans ((up_ne (by decide)).trans ((up_ne (by decide)).trans ((up_ne (by decide)).trans ((up_ne (by decide)).trans ((up_ne (by decide)).trans ((up_ne (by decide)).trans ((up_ne (by decide)).trans ((up_ne (by decide)).trans ((up_ne (by decide)).trans up_at)))))))))))))))))))))))))))))))))))))))))) rfl (up_at) rfl ⟨by decide, by decide⟩ (by decide) dX0_init_106 (fun H locs w => ?_)
  refine lv_iinc (v := 1) (lv' := [(1, .int 1), (0, .ref (B + 22))]) hx hb dX0_init_107 hl (k := 0) rfl (by decide) (by decide) rfl (fun ls hl => ?_)
  refine lv_goto (tgt := 88) hx hb dX0_init_110 (by decide) ?_
  refine lv_iload_n hx hb dX0_init_88 rfl (lv_at hl 0 rfl) ?_
  refine lv_bipush (v := 8) hx hb dX0_init_89 (by decide) ?_
  refine lv_icmp_gt (tgt := 113) hx hb dX0_init_91 (by decide) (fun c1 => absurd c1 (by decide)) (fun _ => ?_)
  refine lv_aload_n hx hb dX0_init_94 rfl (lv_at hl 1 rfl) ?_
  refine n_get F w (a := 22) (C := RX0) (T := TX0) (N := 8) (ci := 0) (k := 3) (by decide) ((up_ne (by decide)).trans ((up_ne (by decide)).trans ((up_ne (by decide)).trans ((up_ne (by decide)).trans ((up_ne (by decide)).trans ((up_ne (by decide)).trans ((up_ne (by decide)).trans ((up_ne (by decide)).trans ((up_ne (by decide)).trans ((up_ne (by decide)).trans ((up_ne (by decide)).trans ((up_ne (by decide)).trans ((up_ne (by decide)).trans ((up_ne (by decide)).trans ((up_ne (by decide)).trans ((up_ne (by decide)).trans ((up_ne (by decide)).trans ((up_ne (by decide)).trans ((up_ne (by decide)).trans ((up_ne (by decide)).trans ((up_ne (by decide)).trans ((up_ne (by decide)).trans ((up_ne (by decide)).trans ((up_ne (by decide)).trans ((up_ne (by decide)).trans ((up_ne (by decide)).trans ((up_ne (by decide)).trans ((up_ne (by decide)).trans ((up_ne (by decide)).trans ((up_ne (by decide)).trans ((up_ne (by decide)).trans ((up_ne (by decide)).trans ((up_ne (by decide)).trans ((up_ne (by decide)).trans ((up_ne (by decide)).trans ((up_ne (by decide)).trans ((up_ne (by decide)).trans ((up_ne (by decide)).trans up_at)))))))))))))))))))))))))))))))))))))) rfl inT0 (by decide) rfl tb_189 rfl dX0_init_95 ?_
  refine lv_iload_n hx hb dX0_init_98 rfl (lv_at hl 0 rfl) ?_
  refine n_new F w (C := RX9) (T := TX9) (N := 6) (ci := 9) (fs := [.int 0, .int 0, .int 0, .int 0, .null, .null]) tyX9 tyX9_ok inT9 tb_753 tb_754 tb_5 rfl nf_9 (Nat.le_of_ble_eq_true rfl) (Nat.le_of_ble_eq_true rfl) (c1 := 25) (s1 := 142) (n1 := 48) rfl rfl rfl dX0_init_99 (fun H w => ?_)
  refine lv_dup hx hb dX0_init_102 rfl ?_
  refine n_callN F w (b := 47) (As := []) (rest := [.ref (B + 47), .int 1, .ref (B + 25)]) (n_X9_init_22 (up_at)) gc_X9_init rfl tb_5 (by decide) tb_756 hs_X9_init ⟨(Nat.le_of_ble_eq_true rfl), (Nat.le_of_ble_eq_true rfl)⟩ hl.1 rfl (Nat.le_of_ble_eq_true rfl) ⟨(Nat.le_of_ble_eq_true rfl), (Nat.le_of_ble_eq_true rfl)⟩ (k1 := 27) (k2 := 166) rfl rfl dX0_init_103 (fun H locs w => ?_)
  refine n_ast F w (a := 25) (v := 47) (j := 1) (t := 5) (ci := 9) (by decide) (by decide) ((up_ne (by decide)).trans ((up_ne (by decide)).trans ((up_ne (by decide)).trans ((up_ne (by decide)).trans ((up_ne (by decide)).trans up_at))))) rfl (up_at) rfl ⟨by decide, by decide⟩ (by decide) dX0_init_106 (fun H locs w => ?_)
  refine lv_iinc (v := 2) (lv' := [(1, .int 2), (0, .ref (B + 22))]) hx hb dX0_init_107 hl (k := 0) rfl (by decide) (by decide) rfl (fun ls hl => ?_)
  refine lv_goto (tgt := 88) hx hb dX0_init_110 (by decide) ?_
  refine lv_iload_n hx hb dX0_init_88 rfl (lv_at hl 0 rfl) ?_
  refine lv_bipush (v := 8) hx hb dX0_init_89 (by decide) ?_
  refine lv_icmp_gt (tgt := 113) hx hb dX0_init_91 (by decide) (fun c1 => absurd c1 (by decide)) (fun _ => ?_)
  refine lv_aload_n hx hb dX0_init_94 rfl (lv_at hl 1 rfl) ?_
  refine n_get F w (a := 22) (C := RX0) (T := TX0) (N := 8) (ci := 0) (k := 3) (by decide) ((up_ne (by decide)).trans ((up_ne (by decide)).trans ((up_ne (by decide)).trans ((up_ne (by decide)).trans ((up_ne (by decide)).trans ((up_ne (by decide)).trans ((up_ne (by decide)).trans ((up_ne (by decide)).trans ((up_ne (by decide)).trans ((up_ne (by decide)).trans ((up_ne (by decide)).trans ((up_ne (by decide)).trans ((up_ne (by decide)).trans ((up_ne (by decide)).trans ((up_ne (by decide)).trans ((up_ne (by decide)).trans ((up_ne (by decide)).trans ((up_ne (by decide)).trans ((up_ne (by decide)).trans ((up_ne (by decide)).trans ((up_ne (by decide)).trans ((up_ne (by decide)).trans ((up_ne (by decide)).trans ((up_ne (by decide)).trans ((up_ne (by decide)).trans ((up_ne (by decide)).trans ((up_ne (by decide)).trans ((up_ne (by decide)).trans ((up_ne (by decide)).trans ((up_ne (by decide)).trans ((up_ne (by decide)).trans ((up_ne (by decide)).trans ((up_ne (by decide)).trans ((up_ne (by decide)).trans ((up_ne (by decide)).trans ((up_ne (by decide)).trans ((up_ne (by decide)).trans ((up_ne (by decide)).trans ((up_ne (by decide)).trans ((up_ne (by decide)).trans ((up_ne (by decide)).trans ((up_ne (by decide)).trans ((up_ne (by decide)).trans ((up_ne (by decide)).trans up_at)))))))))))))))))))))))))))))))))))))))))))) rfl inT0 (by decide) rfl tb_189 rfl dX0_init_95 ?_
  refine lv_iload_n hx hb dX0_init_98 rfl (lv_at hl 0 rfl) ?_
  refine n_new F w (C := RX9) (T := TX9) (N := 6) (ci := 9) (fs := [.int 0, .int 0, .int 0, .int 0, .null, .null]) tyX9 tyX9_ok inT9 tb_753 tb_754 tb_5 rfl nf_9 (Nat.le_of_ble_eq_true rfl) (Nat.le_of_ble_eq_true rfl) (c1 := 28) (s1 := 172) (n1 := 51) rfl rfl rfl dX0_init_99 (fun H w => ?_)
  refine lv_dup hx hb dX0_init_102 rfl ?_
  refine n_callN F w (b := 50) (As := []) (rest := [.ref (B + 50), .int 2, .ref (B + 25)]) (n_X9_init_23 (up_at)) gc_X9_init rfl tb_5 (by decide) tb_756 hs_X9_init ⟨(Nat.le_of_ble_eq_true rfl), (Nat.le_of_ble_eq_true rfl)⟩ hl.1 rfl (Nat.le_of_ble_eq_true rfl) ⟨(Nat.le_of_ble_eq_true rfl), (Nat.le_of_ble_eq_true rfl)⟩ (k1 := 30) (k2 := 196) rfl rfl dX0_init_103 (fun H locs w => ?_)
  refine n_ast F w (a := 25) (v := 50) (j := 2) (t := 5) (ci := 9) (by decide) (by decide) ((up_ne (by decide)).trans ((up_ne (by decide)).trans ((up_ne (by decide)).trans ((up_ne (by decide)).trans ((up_ne (by decide)).trans up_at))))) rfl (up_at) rfl ⟨by decide, by decide⟩ (by decide) dX0_init_106 (fun H locs w => ?_)
  refine lv_iinc (v := 3) (lv' := [(1, .int 3), (0, .ref (B + 22))]) hx hb dX0_init_107 hl (k := 0) rfl (by decide) (by decide) rfl (fun ls hl => ?_)
  refine lv_goto (tgt := 88) hx hb dX0_init_110 (by decide) ?_
  refine lv_iload_n hx hb dX0_init_88 rfl (lv_at hl 0 rfl) ?_
  refine lv_bipush (v := 8) hx hb dX0_init_89 (by decide) ?_
  refine lv_icmp_gt (tgt := 113) hx hb dX0_init_91 (by decide) (fun c1 => absurd c1 (by decide)) (fun _ => ?_)
  refine lv_aload_n hx hb dX0_init_94 rfl (lv_at hl 1 rfl) ?_
  refine n_get F w (a := 22) (C := RX0) (T := TX0) (N := 8) (ci := 0) (k := 3) (by decide) ((up_ne (by decide)).trans ((up_ne (by decide)).trans ((up_ne (by decide)).trans ((up_ne (by decide)).trans ((up_ne (by decide)).trans ((up_ne (by decide)).trans ((up_ne (by decide)).trans ((up_ne (by decide)).trans ((up_ne (by decide)).trans ((up_ne (by decide)).trans ((up_ne (by decide)).trans ((up_ne (by decide)).trans ((up_ne (by decide)).trans ((up_ne (by decide)).trans ((up_ne (by decide)).trans ((up_ne (by decide)).trans ((up_ne (by decide)).trans ((up_ne (by decide)).trans ((up_ne (by decide)).trans ((up_ne (by decide)).trans ((up_ne (by decide)).trans ((up_ne (by decide)).trans ((up_ne (by decide)).trans ((up_ne (by decide)).trans ((up_ne (by decide)).trans ((up_ne (by decide)).trans ((up_ne (by decide)).trans ((up_ne (by decide)).trans ((up_ne (by decide)).trans ((up_ne (by decide)).trans ((up_ne (by decide)).trans ((up_ne (by decide)).trans ((up_ne (by decide)).trans ((up_ne (by decide)).trans ((up_ne (by decide)).trans ((up_ne (by decide)).trans ((up_ne (by decide)).trans ((up_ne (by decide)).trans ((up_ne (by decide)).trans ((up_ne (by decide)).trans ((up_ne (by decide)).trans ((up_ne (by decide)).trans ((up_ne (by decide)).trans ((up_ne (by decide)).trans ((up_ne (by decide)).trans ((up_ne (by decide)).trans ((up_ne (by decide)).trans ((up_ne (by decide)).trans ((up_ne (by decide)).trans ((up_ne (by decide)).trans up_at)))))))))))))))))))))))))))))))))))))))))))))))))) rfl inT0 (by decide) rfl tb_189 rfl dX0_init_95 ?_
  refine lv_iload_n hx hb dX0_init_98 rfl (lv_at hl 0 rfl) ?_
  refine n_new F w (C := RX9) (T := TX9) (N := 6) (ci := 9) (fs := [.int 0, .int 0, .int 0, .int 0, .null, .null]) tyX9 tyX9_ok inT9 tb_753 tb_754 tb_5 rfl nf_9 (Nat.le_of_ble_eq_true rfl) (Nat.le_of_ble_eq_true rfl) (c1 := 31) (s1 := 202) (n1 := 54) rfl rfl rfl dX0_init_99 (fun H w => ?_)
  refine lv_dup hx hb dX0_init_102 rfl ?_
  refine n_callN F w (b := 53) (As := []) (rest := [.ref (B + 53), .int 3, .ref (B + 25)]) (n_X9_init_24 (up_at)) gc_X9_init rfl tb_5 (by decide) tb_756 hs_X9_init ⟨(Nat.le_of_ble_eq_true rfl), (Nat.le_of_ble_eq_true rfl)⟩ hl.1 rfl (Nat.le_of_ble_eq_true rfl) ⟨(Nat.le_of_ble_eq_true rfl), (Nat.le_of_ble_eq_true rfl)⟩ (k1 := 33) (k2 := 226) rfl rfl dX0_init_103 (fun H locs w => ?_)
  refine n_ast F w (a := 25) (v := 53) (j := 3) (t := 5) (ci := 9) (by decide) (by decide) ((up_ne (by decide)).trans ((up_ne (by decide)).trans ((up_ne (by decide)).trans ((up_ne (by decide)).trans ((up_ne (by decide)).trans up_at))))) rfl (up_at) rfl ⟨by decide, by decide⟩ (by decide) dX0_init_106 (fun H locs w => ?_)
  refine lv_iinc (v := 4) (lv' := [(1, .int 4), (0, .ref (B + 22))]) hx hb dX0_init_107 hl (k := 0) rfl (by decide) (by decide) rfl (fun ls hl => ?_)
  refine lv_goto (tgt := 88) hx hb dX0_init_110 (by decide) ?_
  refine lv_iload_n hx hb dX0_init_88 rfl (lv_at hl 0 rfl) ?_
  refine lv_bipush (v := 8) hx hb dX0_init_89 (by decide) ?_
  refine lv_icmp_gt (tgt := 113) hx hb dX0_init_91 (by decide) (fun c1 => absurd c1 (by decide)) (fun _ => ?_)
  refine lv_aload_n hx hb dX0_init_94 rfl (lv_at hl 1 rfl) ?_
  refine n_get F w (a := 22) (C := RX0) (T := TX0) (N := 8) (ci := 0) (k := 3) (by decide) ((up_ne (by decide)).trans ((up_ne (by decide)).trans ((up_ne (by decide)).trans ((up_ne (by decide)).trans ((up_ne (by decide)).trans ((up_ne (by decide)).trans ((up_ne (by decide)).trans ((up_ne (by decide)).trans ((up_ne (by decide)).trans ((up_ne (by decide)).trans ((up_ne (by decide)).trans ((up_ne (by decide)).trans ((up_ne (by decide)).trans ((up_ne (by decide)).trans ((up_ne (by decide)).trans ((up_ne (by decide)).trans ((up_ne (by decide)).trans ((up_ne (by decide)).trans ((up_ne (by decide)).trans ((up_ne (by decide)).trans ((up_ne (by decide)).trans ((up_ne (by decide)).trans ((up_ne (by decide)).trans ((up_ne (by decide)).trans ((up_ne (by decide)).trans ((up_ne (by decide)).trans ((up_ne (by decide)).trans ((up_ne (by decide)).trans ((up_ne (by decide)).trans ((up_ne (by decide)).trans ((up_ne (by decide)).trans ((up_ne (by decide)).trans ((up_ne (by decide)).trans ((up_ne (by decide)).trans ((up_ne (by decide)).trans ((up_ne (by decide)).trans ((up_ne (by decide)).trans ((up_ne (by decide)).trans ((up_ne (by decide)).trans ((up_ne (by decide)).trans ((up_ne (by decide)).trans ((up_ne (by decide)).trans ((up_ne (by decide)).trans ((up_ne (by decide)).trans ((up_ne (by decide)).trans ((up_ne (by decide)).trans ((up_ne (by decide)).trans ((up_ne (by decide)).trans ((up_ne (by decide)).trans ((up_ne (by decide)).trans ((up_ne (by decide)).trans ((up_ne (by decide)).trans ((up_ne (by decide)).trans ((up_ne (by decide)).trans ((up_ne (by decide)).trans ((up_ne (by decide)).trans up_at)))))))))))))))))))))))))))))))))))))))))))))))))))))))) rfl inT0 (by decide) rfl tb_189 rfl dX0_init_95 ?_
  refine lv_iload_n hx hb dX0_init_98 rfl (lv_at hl 0 rfl) ?_
  refine n_new F w (C := RX9) (T := TX9) (N := 6) (ci := 9) (fs := [.int 0, .int 0, .int 0, .int 0, .null, .null]) tyX9 tyX9_ok inT9 tb_753 tb_754 tb_5 rfl nf_9 (Nat.le_of_ble_eq_true rfl) (Nat.le_of_ble_eq_true rfl) (c1 := 34) (s1 := 232) (n1 := 57) rfl rfl rfl dX0_init_99 (fun H w => ?_)
  refine lv_dup hx hb dX0_init_102 rfl ?_
  refine n_callN F w (b := 56) (As := []) (rest := [.ref (B + 56), .int 4, .ref (B + 25)]) (n_X9_init_25 (up_at)) gc_X9_init rfl tb_5 (by decide) tb_756 hs_X9_init ⟨(Nat.le_of_ble_eq_true rfl), (Nat.le_of_ble_eq_true rfl)⟩ hl.1 rfl (Nat.le_of_ble_eq_true rfl) ⟨(Nat.le_of_ble_eq_true rfl), (Nat.le_of_ble_eq_true rfl)⟩ (k1 := 36) (k2 := 256) rfl rfl dX0_init_103 (fun H locs w => ?_)
  refine n_ast F w (a := 25) (v := 56) (j := 4) (t := 5) (ci := 9) (by decide) (by decide) ((up_ne (by decide)).trans ((up_ne (by decide)).trans ((up_ne (by decide)).trans ((up_ne (by decide)).trans ((up_ne (by decide)).trans up_at))))) rfl (up_at) rfl ⟨by decide, by decide⟩ (by decide) dX0_init_106 (fun H locs w => ?_)
  refine lv_iinc (v := 5) (lv' := [(1, .int 5), (0, .ref (B + 22))]) hx hb dX0_init_107 hl (k := 0) rfl (by decide) (by decide) rfl (fun ls hl => ?_)
  refine lv_goto (tgt := 88) hx hb dX0_init_110 (by decide) ?_
  refine lv_iload_n hx hb dX0_init_88 rfl (lv_at hl 0 rfl) ?_
  refine lv_bipush (v := 8) hx hb dX0_init_89 (by decide) ?_
  refine lv_icmp_gt (tgt := 113) hx hb dX0_init_91 (by decide) (fun c1 => absurd c1 (by decide)) (fun _ => ?_)
  refine lv_aload_n hx hb dX0_init_94 rfl (lv_at hl 1 rfl) ?_
  refine n_get F w (a := 22) (C := RX0) (T := TX0) (N := 8) (ci := 0) (k := 3) (by decide) ((up_ne (by decide)).trans ((up_ne (by decide)).trans ((up_ne (by decide)).trans ((up_ne (by decide)).trans ((up_ne (by decide)).trans ((up_ne (by decide)).trans ((up_ne (by decide)).trans ((up_ne (by decide)).trans ((up_ne (by decide)).trans ((up_ne (by decide)).trans ((up_ne (by decide)).trans ((up_ne (by decide)).trans ((up_ne (by decide)).trans ((up_ne (by decide)).trans ((up_ne (by decide)).trans ((up_ne (by decide)).trans ((up_ne (by decide)).trans ((up_ne (by decide)).trans ((up_ne (by decide)).trans ((up_ne (by decide)).trans ((up_ne (by decide)).trans ((up_ne (by decide)).trans ((up_ne (by decide)).trans ((up_ne (by decide)).trans ((up_ne (by decide)).trans ((up_ne (by decide)).trans ((up_ne (by decide)).trans ((up_ne (by decide)).trans ((up_ne (by decide)).trans ((up_ne (by decide)).trans ((up_ne (by decide)).trans ((up_ne (by decide)).trans ((up_ne (by decide)).trans ((up_ne (by decide)).trans ((up_ne (by decide)).trans ((up_ne (by decide)).trans ((up_ne (by decide)).trans ((up_ne (by decide)).trans ((up_ne (by decide)).trans ((up_ne (by decide)).trans ((up_ne (by decide)).trans ((up_ne (by decide)).trans ((up_ne (by decide)).trans ((up_ne (by decide)).trans ((up_ne (by decide)).trans ((up_ne (by decide)).trans ((up_ne (by decide)).trans ((up_ne (by decide)).trans ((up_ne (by decide)).trans ((up_ne (by decide)).trans ((up_ne (by decide)).trans ((up_ne (by decide)).trans ((up_ne (by decide)).trans ((up_ne (by decide)).trans ((up_ne (by decide)).trans ((up_ne (by decide)).trans ((up_ne (by decide)).trans ((up_ne (by decide)).trans ((up_ne (by decide)).trans ((up_ne (by decide)).trans ((up_ne (by decide)).trans ((up_ne (by decide)).trans up_at)))))))))))))))))))))))))))))))))))))))))))))))))))))))))))))) rfl inT0 (by decide) rfl tb_189 rfl dX0_init_95 ?_
  refine lv_iload_n hx hb dX0_init_98 rfl (lv_at hl 0 rfl) ?_
  refine n_new F w (C := RX9) (T := TX9) (N := 6) (ci := 9) (fs := [.int 0, .int 0, .int 0, .int 0, .null, .null]) tyX9 tyX9_ok inT9 tb_753 tb_754 tb_5 rfl nf_9 (Nat.le_of_ble_eq_true rfl) (Nat.le_of_ble_eq_true rfl) (c1 := 37) (s1 := 262) (n1 := 60) rfl rfl rfl dX0_init_99 (fun H w => ?_)
  refine lv_dup hx hb dX0_init_102 rfl ?_
  refine n_callN F w (b := 59) (As := []) (rest := [.ref (B + 59), .int 5, .ref (B + 25)]) (n_X9_init_26 (up_at)) gc_X9_init rfl tb_5 (by decide) tb_756 hs_X9_init ⟨(Nat.le_of_ble_eq_true rfl), (Nat.le_of_ble_eq_true rfl)⟩ hl.1 rfl (Nat.le_of_ble_eq_true rfl) ⟨(Nat.le_of_ble_eq_true rfl), (Nat.le_of_ble_eq_true rfl)⟩ (k1 := 39) (k2 := 286) rfl rfl dX0_init_103 (fun H locs w => ?_)
  refine n_ast F w (a := 25) (v := 59) (j := 5) (t := 5) (ci := 9) (by decide) (by decide) ((up_ne (by decide)).trans ((up_ne (by decide)).trans ((up_ne (by decide)).trans ((up_ne (by decide)).trans ((up_ne (by decide)).trans up_at))))) rfl (up_at) rfl ⟨by decide, by decide⟩ (by decide) dX0_init_106 (fun H locs w => ?_)
  refine lv_iinc (v := 6) (lv' := [(1, .int 6), (0, .ref (B + 22))]) hx hb dX0_init_107 hl (k := 0) rfl (by decide) (by decide) rfl (fun ls hl => ?_)
  refine lv_goto (tgt := 88) hx hb dX0_init_110 (by decide) ?_
  refine lv_iload_n hx hb dX0_init_88 rfl (lv_at hl 0 rfl) ?_
  refine lv_bipush (v := 8) hx hb dX0_init_89 (by decide) ?_
  refine lv_icmp_gt (tgt := 113) hx hb dX0_init_91 (by decide) (fun c1 => absurd c1 (by decide)) (fun _ => ?_)
  refine lv_aload_n hx hb dX0_init_94 rfl (lv_at hl 1 rfl) ?_
  refine n_get F w (a := 22) (C := RX0) (T := TX0) (N := 8) (ci := 0) (k := 3) (by decide) ((up_ne (by decide)).trans ((up_ne (by decide)).trans ((up_ne (by decide)).trans ((up_ne (by decide)).trans ((up_ne (by decide)).trans ((up_ne (by decide)).trans ((up_ne (by decide)).trans ((up_ne (by decide)).trans ((up_ne (by decide)).trans ((up_ne (by decide)).trans ((up_ne (by decide)).trans ((up_ne (by decide)).trans ((up_ne (by decide)).trans ((up_ne (by decide)).trans ((up_ne (by decide)).trans ((up_ne (by decide)).trans ((up_ne (by decide)).trans ((up_ne (by decide)).trans ((up_ne (by decide)).trans ((up_ne (by decide)).trans ((up_ne (by decide)).trans ((up_ne (by decide)).trans ((up_ne (by decide)).trans ((up_ne (by decide)).trans ((up_ne (by decide)).trans ((up_ne (by decide)).trans ((up_ne (by decide)).trans ((up_ne (by decide)).trans ((up_ne (by decide)).trans ((up_ne (by decide)).trans ((up_ne (by decide)).trans ((up_ne (by decide)).trans ((up_ne (by decide)).trans ((up_ne (by decide)).trans ((up_ne (by decide)).trans ((up_ne (by decide)).trans ((up_ne (by decide)).trans ((up_ne (by decide)).trans ((up_ne (by decide)).trans ((up_ne (by decide)).trans ((up_ne (by decide)).trans ((up_ne (by decide)).trans ((up_ne (by decide)).trans ((up_ne (by decide)).trans ((up_ne (by decide)).trans ((up_ne (by decide)).trans ((up_ne (by decide)).trans ((up_ne (by decide)).trans ((up_ne (by decide)).trans ((up_ne (by decide)).trans ((up_ne (by decide)).trans ((up_ne (by decide)).trans ((up_ne (by decide)).trans ((up_ne (by decide)).trans ((up_ne (by decide)).trans ((up_ne (by decide)).trans ((up_ne (by decide)).trans ((up_ne (by decide)).trans ((up_ne (by decide)).trans ((up_ne (by decide)).trans ((up_ne (by decide)).trans ((up_ne (by decide)).trans ((up_ne (by decide)).trans ((up_ne (by decide)).trans ((up_ne (by decide)).trans ((up_ne (by decide)).trans ((up_ne (by decide)).trans ((up_ne (by decide)).trans up_at)))))))))))))))))))))))))))))))))))))))))))))))))))))))))))))))))))) rfl inT0 (by decide) rfl tb_189 rfl dX0_init_95 ?_
  refine lv_iload_n hx hb dX0_init_98 rfl (lv_at hl 0 rfl) ?_
  refine n_new F w (C := RX9) (T := TX9) (N := 6) (ci := 9) (fs := [.int 0, .int 0, .int 0, .int 0, .null, .null]) tyX9 tyX9_ok inT9 tb_753 tb_754 tb_5 rfl nf_9 (Nat.le_of_ble_eq_true rfl) (Nat.le_of_ble_eq_true rfl) (c1 := 40) (s1 := 292) (n1 := 63) rfl rfl rfl dX0_init_99 (fun H w => ?_)
  refine lv_dup hx hb dX0_init_102 rfl ?_
  refine n_callN F w (b := 62) (As := []) (rest := [.ref (B + 62), .int 6, .ref (B + 25)]) (n_X9_init_27 (up_at)) gc_X9_init rfl tb_5 (by decide) tb_756 hs_X9_init ⟨(Nat.le_of_ble_eq_true rfl), (Nat.le_of_ble_eq_true rfl)⟩ hl.1 rfl (Nat.le_of_ble_eq_true rfl) ⟨(Nat.le_of_ble_eq_true rfl), (Nat.le_of_ble_eq_true rfl)⟩ (k1 := 42) (k2 := 316) rfl rfl dX0_init_103 (fun H locs w => ?_)
  refine n_ast F w (a := 25) (v := 62) (j := 6) (t := 5) (ci := 9) (by decide) (by decide) ((up_ne (by decide)).trans ((up_ne (by decide)).trans ((up_ne (by decide)).trans ((up_ne (by decide)).trans ((up_ne (by decide)).trans up_at))))) rfl (up_at) rfl ⟨by decide, by decide⟩ (by decide) dX0_init_106 (fun H locs w => ?_)
  refine lv_iinc (v := 7) (lv' := [(1, .int 7), (0, .ref (B + 22))]) hx hb dX0_init_107 hl (k := 0) rfl (by decide) (by decide) rfl (fun ls hl => ?_)
  refine lv_goto (tgt := 88) hx hb dX0_init_110 (by decide) ?_
  refine lv_iload_n hx hb dX0_init_88 rfl (lv_at hl 0 rfl) ?_
  refine lv_bipush (v := 8) hx hb dX0_init_89 (by decide) ?_
  refine lv_icmp_gt (tgt := 113) hx hb dX0_init_91 (by decide) (fun c1 => absurd c1 (by decide)) (fun _ => ?_)
  refine lv_aload_n hx hb dX0_init_94 rfl (lv_at hl 1 rfl) ?_
  refine n_get F w (a := 22) (C := RX0) (T := TX0) (N := 8) (ci := 0) (k := 3) (by decide) ((up_ne (by decide)).trans ((up_ne (by decide)).trans ((up_ne (by decide)).trans ((up_ne (by decide)).trans ((up_ne (by decide)).trans ((up_ne (by decide)).trans ((up_ne (by decide)).trans ((up_ne (by decide)).trans ((up_ne (by decide)).trans ((up_ne (by decide)).trans ((up_ne (by decide)).trans ((up_ne (by decide)).trans ((up_ne (by decide)).trans ((up_ne (by decide)).trans ((up_ne (by decide)).trans ((up_ne (by decide)).trans ((up_ne (by decide)).trans ((up_ne (by decide)).trans ((up_ne (by decide)).trans ((up_ne (by decide)).trans ((up_ne (by decide)).trans ((up_ne (by decide)).trans ((up_ne (by decide)).trans ((up_ne (by decide)).trans ((up_ne (by decide)).trans ((up_ne (by decide)).trans ((up_ne (by decide)).trans ((up_ne (by decide)).trans ((up_ne (by decide)).trans ((up_ne (by decide)).trans ((up_ne (by decide)).trans ((up_ne (by decide)).trans ((up_ne (by decide)).trans ((up_ne (by decide)).trans ((up_ne (by decide)).trans ((up_ne (by decide)).trans ((up_ne (by decide)).trans ((up_ne (by decide)).trans ((up_ne (by decide)).trans ((up_ne (by decide)).trans ((up_ne (by decide)).trans ((up_ne (by decide)).trans ((up_ne (by decide)).trans ((up_ne (by decide)).trans ((up_ne (by decide)).trans ((up_ne (by decide)).trans ((up_ne (by decide)).trans ((up_ne (by decide)).trans ((up_ne (by decide)).trans ((up_ne (by decide)).trans ((up_ne (by decide)).trans ((up_ne (by decide)).trans ((up_ne (by decide)).trans ((up_ne (by decide)).trans ((up_ne (by decide)).trans ((up_ne (by decide)).trans ((up_ne (by decide)).trans ((up_ne (by decide)).trans ((up_ne (by decide)).trans ((up_ne (by decide)).trans ((up_ne (by decide)).trans ((up_ne (by decide)).trans ((up_ne (by decide)).trans ((up_ne (by decide)).trans ((up_ne (by decide)).trans ((up_ne (by decide)).trans ((up_ne (by decide)).trans ((up_ne (by decide)).trans ((up_ne (by decide)).trans ((up_ne (by decide)).trans ((up_ne (by decide)).trans ((up_ne (by decide)).trans ((up_ne (by decide)).trans ((up_ne (by decide)).trans up_at)))))))))))))))))))))))))))))))))))))))))))))))))))))))))))))))))))))))))) rfl inT0 (by decide) rfl tb_189 rfl dX0_init_95 ?_
  refine lv_iload_n hx hb dX0_init_98 rfl (lv_at hl 0 rfl) ?_
  refine n_new F w (C := RX9) (T := TX9) (N := 6) (ci := 9) (fs := [.int 0, .int 0, .int 0, .int 0, .null, .null]) tyX9 tyX9_ok inT9 tb_753 tb_754 tb_5 rfl nf_9 (Nat.le_of_ble_eq_true rfl) (Nat.le_of_ble_eq_true rfl) (c1 := 43) (s1 := 322) (n1 := 66) rfl rfl rfl dX0_init_99 (fun H w => ?_)
  refine lv_dup hx hb dX0_init_102 rfl ?_
  refine n_callN F w (b := 65) (As := []) (rest := [.ref (B + 65), .int 7, .ref (B + 25)]) (n_X9_init_28 (up_at)) gc_X9_init rfl tb_5 (by decide) tb_756 hs_X9_init ⟨(Nat.le_of_ble_eq_true rfl), (Nat.le_of_ble_eq_true rfl)⟩ hl.1 rfl (Nat.le_of_ble_eq_true rfl) ⟨(Nat.le_of_ble_eq_true rfl), (Nat.le_of_ble_eq_true rfl)⟩ (k1 := 45) (k2 := 346) rfl rfl dX0_init_103 (fun H locs w => ?_)
  refine n_ast F w (a := 25) (v := 65) (j := 7) (t := 5) (ci := 9) (by decide) (by decide) ((up_ne (by decide)).trans ((up_ne (by decide)).trans ((up_ne (by decide)).trans ((up_ne (by decide)).trans ((up_ne (by decide)).trans up_at))))) rfl (up_at) rfl ⟨by decide, by decide⟩ (by decide) dX0_init_106 (fun H locs w => ?_)
  refine lv_iinc (v := 8) (lv' := [(1, .int 8), (0, .ref (B + 22))]) hx hb dX0_init_107 hl (k := 0) rfl (by decide) (by decide) rfl (fun ls hl => ?_)
  refine lv_goto (tgt := 88) hx hb dX0_init_110 (by decide) ?_
  refine lv_iload_n hx hb dX0_init_88 rfl (lv_at hl 0 rfl) ?_
  refine lv_bipush (v := 8) hx hb dX0_init_89 (by decide) ?_
  refine lv_icmp_gt (tgt := 113) hx hb dX0_init_91 (by decide) (fun c1 => absurd c1 (by decide)) (fun _ => ?_)
  refine lv_aload_n hx hb dX0_init_94 rfl (lv_at hl 1 rfl) ?_
  refine n_get F w (a := 22) (C := RX0) (T := TX0) (N := 8) (ci := 0) (k := 3) (by decide) ((up_ne (by decide)).trans ((up_ne (by decide)).trans ((up_ne (by decide)).trans ((up_ne (by decide)).trans ((up_ne (by decide)).trans ((up_ne (by decide)).trans ((up_ne (by decide)).trans ((up_ne (by decide)).trans ((up_ne (by decide)).trans ((up_ne (by decide)).trans ((up_ne (by decide)).trans ((up_ne (by decide)).trans ((up_ne (by decide)).trans ((up_ne (by decide)).trans ((up_ne (by decide)).trans ((up_ne (by decide)).trans ((up_ne (by decide)).trans ((up_ne (by decide)).trans ((up_ne (by decide)).trans ((up_ne (by decide)).trans ((up_ne (by decide)).trans ((up_ne (by decide)).trans ((up_ne (by decide)).trans ((up_ne (by decide)).trans ((up_ne (by decide)).trans ((up_ne (by decide)).trans ((up_ne (by decide)).trans ((up_ne (by decide)).trans ((up_ne (by decide)).trans ((up_ne (by decide)).trans ((up_ne (by decide)).trans ((up_ne (by decide)).trans ((up_ne (by decide)).trans ((up_ne (by decide)).trans ((up_ne (by decide)).trans ((up_ne (by decide)).trans ((up_ne (by decide)).trans ((up_ne (by decide)).trans ((up_ne (by decide)).trans ((up_ne (by decide)).trans ((up_ne (by decide)).trans ((up_ne (by decide)).trans ((up_ne (by decide)).trans ((up_ne (by decide)).trans ((up_ne (by decide)).trans ((up_ne (by decide)).trans ((up_ne (by decide)).trans ((up_ne (by decide)).trans ((up_ne (by decide)).trans ((up_ne (by decide)).trans ((up_ne (by decide)).trans ((up_ne (by decide)).trans ((up_ne (by decide)).trans ((up_ne (by decide)).trans ((up_ne (by decide)).trans ((up_ne (by decide)).trans ((up_ne (by decide)).trans ((up_ne (by decide)).trans ((up_ne (by decide)).trans ((up_ne (by decide)).trans ((up_ne (by decide)).trans ((up_ne (by decide)).trans ((up_ne (by decide)).trans ((up_ne (by decide)).trans ((up_ne (by decide)).trans ((up_ne (by decide)).trans ((up_ne (by decide)).trans ((up_ne (by decide)).trans ((up_ne (by decide)).trans ((up_ne (by decide)).trans ((up_ne (by decide)).trans ((up_ne (by decide)).trans ((up_ne (by decide)).trans ((up_ne (by decide)).trans ((up_ne (by decide)).trans ((up_ne (by decide)).trans ((up_ne (by decide)).trans ((up_ne (by decide)).trans ((up_ne (by decide)).trans ((up_ne (by decide)).trans up_at)))))))))))))))))))))))))))))))))))))))))))))))))))))))))))))))))))))))))))))))) rfl inT0 (by decide) rfl tb_189 rfl dX0_init_95 ?_
  refine lv_iload_n hx hb dX0_init_98 rfl (lv_at hl 0 rfl) ?_
  refine n_new F w (C := RX9) (T := TX9) (N := 6) (ci := 9) (fs := [.int 0, .int 0, .int 0, .int 0, .null, .null]) tyX9 tyX9_ok inT9 tb_753 tb_754 tb_5 rfl nf_9 (Nat.le_of_ble_eq_true rfl) (Nat.le_of_ble_eq_true rfl) (c1 := 46) (s1 := 352) (n1 := 69) rfl rfl rfl dX0_init_99 (fun H w => ?_)
  refine lv_dup hx hb dX0_init_102 rfl ?_
  refine n_callN F w (b := 68) (As := []) (rest := [.ref (B + 68), .int 8, .ref (B + 25)]) (n_X9_init_29 (up_at)) gc_X9_init rfl tb_5 (by decide) tb_756 hs_X9_init ⟨(Nat.le_of_ble_eq_true rfl), (Nat.le_of_ble_eq_true rfl)⟩ hl.1 rfl (Nat.le_of_ble_eq_true rfl) ⟨(Nat.le_of_ble_eq_true rfl), (Nat.le_of_ble_eq_true rfl)⟩ (k1 := 48) (k2 := 376) rfl rfl dX0_init_103 (fun H locs w => ?_)
  refine n_ast F w (a := 25) (v := 68) (j := 8) (t := 5) (ci := 9) (by decide) (by decide) ((up_ne (by decide)).trans ((up_ne (by decide)).trans ((up_ne (by decide)).trans ((up_ne (by decide)).trans ((up_ne (by decide)).trans up_at))))) rfl (up_at) rfl ⟨by decide, by decide⟩ (by decide) dX0_init_106 (fun H locs w => ?_)
  refine lv_iinc (v := 9) (lv' := [(1, .int 9), (0, .ref (B + 22))]) hx hb dX0_init_107 hl (k := 0) rfl (by decide) (by decide) rfl (fun ls hl => ?_)
  refine lv_goto (tgt := 88) hx hb dX0_init_110 (by decide) ?_
  refine lv_iload_n hx hb dX0_init_88 rfl (lv_at hl 0 rfl) ?_
  refine lv_bipush (v := 8) hx hb dX0_init_89 (by decide) ?_
  refine lv_icmp_gt (tgt := 113) hx hb dX0_init_91 (by decide) (fun _ => ?_) (fun c1 => absurd c1 (by decide))
  refine lv_aload_n hx hb dX0_init_113 rfl (lv_at hl 1 rfl) ?_
  refine lv_aload_n hx hb dX0_init_114 rfl (lv_at hl 1 rfl) ?_
  refine n_get F w (a := 22) (C := RX0) (T := TX0) (N := 8) (ci := 0) (k := 3) (by decide) ((up_ne (by decide)).trans ((up_ne (by decide)).trans ((up_ne (by decide)).trans ((up_ne (by decide)).trans ((up_ne (by decide)).trans ((up_ne (by decide)).trans ((up_ne (by decide)).trans ((up_ne (by decide)).trans ((up_ne (by decide)).trans ((up_ne (by decide)).trans ((up_ne (by decide)).trans ((up_ne (by decide)).trans ((up_ne (by decide)).trans ((up_ne (by decide)).trans ((up_ne (by decide)).trans ((up_ne (by decide)).trans ((up_ne (by decide)).trans ((up_ne (by decide)).trans ((up_ne (by decide)).trans ((up_ne (by decide)).trans ((up_ne (by decide)).trans ((up_ne (by decide)).trans ((up_ne (by decide)).trans ((up_ne (by decide)).trans ((up_ne (by decide)).trans ((up_ne (by decide)).trans ((up_ne (by decide)).trans ((up_ne (by decide)).trans ((up_ne (by decide)).trans ((up_ne (by decide)).trans ((up_ne (by decide)).trans ((up_ne (by decide)).trans ((up_ne (by decide)).trans ((up_ne (by decide)).trans ((up_ne (by decide)).trans ((up_ne (by decide)).trans ((up_ne (by decide)).trans ((up_ne (by decide)).trans ((up_ne (by decide)).trans ((up_ne (by decide)).trans ((up_ne (by decide)).trans ((up_ne (by decide)).trans ((up_ne (by decide)).trans ((up_ne (by decide)).trans ((up_ne (by decide)).trans ((up_ne (by decide)).trans ((up_ne (by decide)).trans ((up_ne (by decide)).trans ((up_ne (by decide)).trans ((up_ne (by decide)).trans ((up_ne (by decide)).trans ((up_ne (by decide)).trans ((up_ne (by decide)).trans ((up_ne (by decide)).trans ((up_ne (by decide)).trans ((up_ne (by decide)).trans ((up_ne (by decide)).trans ((up_ne (by decide)).trans ((up_ne (by decide)).trans ((up_ne (by decide)).trans ((up_ne (by decide)).trans ((up_ne (by decide)).trans ((up_ne (by decide)).trans ((up_ne (by decide)).trans ((up_ne (by decide)).trans ((up_ne (by decide)).trans ((up_ne (by decide)).trans ((up_ne (by decide)).trans ((up_ne (by decide)).trans ((up_ne (by decide)).trans ((up_ne (by decide)).trans ((up_ne (by decide)).trans ((up_ne (by decide)).trans ((up_ne (by decide)).trans ((up_ne (by decide)).trans ((up_ne (by decide)).trans ((up_ne (by decide)).trans ((up_ne (by decide)).trans ((up_ne (by decide)).trans ((up_ne (by decide)).trans ((up_ne (by decide)).trans ((up_ne (by decide)).trans ((up_ne (by decide)).trans ((up_ne (by decide)).trans ((up_ne (by decide)).trans ((up_ne (by decide)).trans up_at)))))))))))))))))))))))))))))))))))))))))))))))))))))))))))))))))))))))))))))))))))))) rfl inT0 (by decide) rfl tb_189 rfl dX0_init_115 ?_
  refine lv_iconst (v := 0) hx hb dX0_init_118 (by decide) ?_
  refine n_aald F w (a := 25) (t := 5) (j := 0) (o := 44) (by decide) (up_at) rfl rfl ⟨by decide, by decide⟩ (by decide) dX0_init_119 ?_
  refine n_putF F w (a := 22) (C := RX0) (T := TX0) (N := 8) (ci := 0) (k := 4) (x := .ref (B + 44)) (ty := .object "ToneLines$Word") (fs1 := [.ref (B + 23), .ref (B + 24), .int 0, .ref (B + 25), .ref (B + 44), .ref (B + 26), .ref (B + 27), .int 0]) tyX0 tyX0_ok nmX0 (by decide) ((up_ne (by decide)).trans ((up_ne (by decide)).trans ((up_ne (by decide)).trans ((up_ne (by decide)).trans ((up_ne (by decide)).trans ((up_ne (by decide)).trans ((up_ne (by decide)).trans ((up_ne (by decide)).trans ((up_ne (by decide)).trans ((up_ne (by decide)).trans ((up_ne (by decide)).trans ((up_ne (by decide)).trans ((up_ne (by decide)).trans ((up_ne (by decide)).trans ((up_ne (by decide)).trans ((up_ne (by decide)).trans ((up_ne (by decide)).trans ((up_ne (by decide)).trans ((up_ne (by decide)).trans ((up_ne (by decide)).trans ((up_ne (by decide)).trans ((up_ne (by decide)).trans ((up_ne (by decide)).trans ((up_ne (by decide)).trans ((up_ne (by decide)).trans ((up_ne (by decide)).trans ((up_ne (by decide)).trans ((up_ne (by decide)).trans ((up_ne (by decide)).trans ((up_ne (by decide)).trans ((up_ne (by decide)).trans ((up_ne (by decide)).trans ((up_ne (by decide)).trans ((up_ne (by decide)).trans ((up_ne (by decide)).trans ((up_ne (by decide)).trans ((up_ne (by decide)).trans ((up_ne (by decide)).trans ((up_ne (by decide)).trans ((up_ne (by decide)).trans ((up_ne (by decide)).trans ((up_ne (by decide)).trans ((up_ne (by decide)).trans ((up_ne (by decide)).trans ((up_ne (by decide)).trans ((up_ne (by decide)).trans ((up_ne (by decide)).trans ((up_ne (by decide)).trans ((up_ne (by decide)).trans ((up_ne (by decide)).trans ((up_ne (by decide)).trans ((up_ne (by decide)).trans ((up_ne (by decide)).trans ((up_ne (by decide)).trans ((up_ne (by decide)).trans ((up_ne (by decide)).trans ((up_ne (by decide)).trans ((up_ne (by decide)).trans ((up_ne (by decide)).trans ((up_ne (by decide)).trans ((up_ne (by decide)).trans ((up_ne (by decide)).trans ((up_ne (by decide)).trans ((up_ne (by decide)).trans ((up_ne (by decide)).trans ((up_ne (by decide)).trans ((up_ne (by decide)).trans ((up_ne (by decide)).trans ((up_ne (by decide)).trans ((up_ne (by decide)).trans ((up_ne (by decide)).trans ((up_ne (by decide)).trans ((up_ne (by decide)).trans ((up_ne (by decide)).trans ((up_ne (by decide)).trans ((up_ne (by decide)).trans ((up_ne (by decide)).trans ((up_ne (by decide)).trans ((up_ne (by decide)).trans ((up_ne (by decide)).trans ((up_ne (by decide)).trans ((up_ne (by decide)).trans ((up_ne (by decide)).trans ((up_ne (by decide)).trans ((up_ne (by decide)).trans ((up_ne (by decide)).trans up_at)))))))))))))))))))))))))))))))))))))))))))))))))))))))))))))))))))))))))))))))))))))) rfl rfl inT0 (by decide) rfl tb_200 rfl hin rfl (by decide +kernel) rfl rfl (Nat.le_of_ble_eq_true rfl) dX0_init_120 (fun H locs w => ?_)
  exact n_end F w hr hlocks dX0_init_123
theorem tk_X0_init : Cond.code yX0_init cX0_init 2 none ∈ TB := tbm (tc1 (List.mem_of_getElem? (i := 107) rfl)) rfl
theorem gc_X0_init : GoodIn TB (cw yX0_init cX0_init 2 none) := goodIn_c2 tk_X0_init
theorem hs_X0_init : yX0_init.cls ≠ "java/lang/invoke/MethodHandle" ∧ yX0_init.cls ≠ "java/lang/invoke/VarHandle" ∧ (parseMethodDescriptor yX0_init.desc).map (fun d => d.parameters.length) = some 0 := by decide +kernel
theorem tb_757 : Cond.methodLink "ToneLines" 34 yX0_init ∈ TB := tbm (tc1 (List.mem_of_getElem? (i := 105) rfl)) rfl
theorem tb_758 : Cond.instanceMethod yX0_init ∈ TB := tbm (tc1 (List.mem_of_getElem? (i := 106) rfl)) rfl
theorem dX11_init_53 : decode cX11_init 53 = .ok (.putfield 35, 3) := dqV kk_181 (by decide +kernel)
theorem dX11_init_56 : decode cX11_init 56 = .ok (.aload_n 0, 1) := dq0 kk_42 (by decide +kernel)
theorem dX11_init_57 : decode cX11_init 57 = .ok (.aload_n 0, 1) := dq0 kk_42 (by decide +kernel)
theorem dX11_init_58 : decode cX11_init 58 = .ok (.getfield 35, 3) := dqV kk_180 (by decide +kernel)
theorem dX11_init_61 : decode cX11_init 61 = .ok (.getfield 39, 3) := dqV kk_180 (by decide +kernel)
theorem tb_759 : Cond.fieldLink "ToneLines" 39 "ToneLines$Derivation" "told" "LToneLines$Word;" ∈ TB := tbm (tc1 (List.mem_of_getElem? (i := 175) rfl)) rfl
theorem dX11_init_64 : decode cX11_init 64 = .ok (.putfield 43, 3) := dqV kk_181 (by decide +kernel)
theorem dX11_init_67 : decode cX11_init 67 = .ok (.aload_n 0, 1) := dq0 kk_42 (by decide +kernel)
theorem dX11_init_68 : decode cX11_init 68 = .ok (.new 44, 3) := dqV kk_187 (by decide +kernel)
theorem tb_760 : Cond.classLink "ToneLines" 44 "ToneLines$History" ∈ TB := tbm (tc1 (List.mem_of_getElem? (i := 202) rfl)) rfl
theorem tb_761 : Cond.instantiable "ToneLines$History" 3 ∈ TB := tbm (tc1 (List.mem_of_getElem? (i := 203) rfl)) rfl
theorem dX11_init_71 : decode cX11_init 71 = .ok (.dup, 1) := dq0 kk_89 (by decide +kernel)
theorem dX11_init_72 : decode cX11_init 72 = .ok (.invokespecial 46, 3) := dqV kk_183 (by decide +kernel)
theorem dX2_init_0 : decode cX2_init 0 = .ok (.aload_n 0, 1) := dq0 kk_42 (by decide +kernel)
theorem dX2_init_1 : decode cX2_init 1 = .ok (.invokespecial 3, 3) := dqV kk_183 (by decide +kernel)
theorem tb_762 : Cond.methodLink "ToneLines$History" 3 ⟨"java/lang/Object", "<init>", "()V"⟩ ∈ TB := tbm (tc1 (List.mem_of_getElem? (i := 207) rfl)) rfl
theorem dX2_init_4 : decode cX2_init 4 = .ok (.aload_n 0, 1) := dq0 kk_42 (by decide +kernel)
theorem dX2_init_5 : decode cX2_init 5 = .ok (.bipush 12, 2) := dqS kk_16 (by decide +kernel)
theorem dX2_init_7 : decode cX2_init 7 = .ok (.anewarray 9, 3) := dqV kk_189 (by decide +kernel)
theorem tb_763 : Cond.classLink "ToneLines$History" 9 "ToneLines$Word" ∈ TB := tbm (tc1 (List.mem_of_getElem? (i := 208) rfl)) rfl
theorem dX2_init_10 : decode cX2_init 10 = .ok (.putfield 11, 3) := dqV kk_181 (by decide +kernel)
theorem dX2_init_13 : decode cX2_init 13 = .ok (.aload_n 0, 1) := dq0 kk_42 (by decide +kernel)
theorem dX2_init_14 : decode cX2_init 14 = .ok (.iconst 0, 1) := dq0 kk_3 (by decide +kernel)
theorem dX2_init_15 : decode cX2_init 15 = .ok (.putfield 17, 3) := dqV kk_181 (by decide +kernel)
theorem dX2_init_18 : decode cX2_init 18 = .ok (.aload_n 0, 1) := dq0 kk_42 (by decide +kernel)
theorem dX2_init_19 : decode cX2_init 19 = .ok (.iconst 0, 1) := dq0 kk_3 (by decide +kernel)
theorem dX2_init_20 : decode cX2_init 20 = .ok (.putfield 21, 3) := dqV kk_181 (by decide +kernel)
theorem dX2_init_23 : decode cX2_init 23 = .ok (.iconst 0, 1) := dq0 kk_3 (by decide +kernel)
theorem dX2_init_24 : decode cX2_init 24 = .ok (.istore_n 1, 1) := dq0 kk_60 (by decide +kernel)
theorem dX2_init_25 : decode cX2_init 25 = .ok (.iload_n 1, 1) := dq0 kk_27 (by decide +kernel)
theorem dX2_init_26 : decode cX2_init 26 = .ok (.bipush 12, 2) := dqS kk_16 (by decide +kernel)
theorem dX2_init_28 : decode cX2_init 28 = .ok (.if_icmp .ge 22, 3) := dqT kk_162 (by decide +kernel)
theorem dX2_init_31 : decode cX2_init 31 = .ok (.aload_n 0, 1) := dq0 kk_42 (by decide +kernel)
theorem dX2_init_32 : decode cX2_init 32 = .ok (.getfield 11, 3) := dqV kk_180 (by decide +kernel)
theorem dX2_init_35 : decode cX2_init 35 = .ok (.iload_n 1, 1) := dq0 kk_27 (by decide +kernel)
theorem dX2_init_36 : decode cX2_init 36 = .ok (.new 9, 3) := dqV kk_187 (by decide +kernel)
theorem dX2_init_39 : decode cX2_init 39 = .ok (.dup, 1) := dq0 kk_89 (by decide +kernel)
theorem dX2_init_40 : decode cX2_init 40 = .ok (.invokespecial 24, 3) := dqV kk_183 (by decide +kernel)
set_option maxRecDepth 8000 in
theorem n_X9_init_31 {l : Launch} {D : va_G} {B : Nat} {cy : Nat → ClassId} {E : Nat → va_E} (h0 : E 73 = .inr (9, [.int 0, .int 0, .int 0, .int 0, .null, .null])) : Cn l D B cy yX9_init cX9_init 1 1 12 2 24 [.ref (B + 73)] 74 E 76 (va_up (va_up (va_up (va_up E 74 (.inl (cy 2, 12, .inl (fun _ => 0)))) 73 (.inr (9, [.int 0, .int 0, .int 0, .int 0, .ref (B + 74), .null]))) 75 (.inl (cy 2, 12, .inl (fun _ => 0)))) 73 (.inr (9, [.int 0, .int 0, .int 0, .int 0, .ref (B + 74), .ref (B + 75)]))) := by
  refine n_start (by decide) (Nat.le_of_ble_eq_true rfl) rfl ?_
  intro p e s m below meth c ls F hr hlocks hin w hl
  have F : CallFix p m c cX9_init 1 s _ TB RX9 := F
  have hx := F.1
  have hb := F.2.1
  have hl : lv_has ls 1 [(0, .ref (B + 73))] := hl
  refine lv_aload_n hx hb dX9_init_0 rfl (lv_at hl 0 rfl) ?_
  refine n_obj F hl.1 tb_755 tb_723 tk_obj dX9_init_1 (Nat.le_of_ble_eq_true rfl) (Nat.le_of_ble_eq_true rfl) ?_
  refine lv_aload_n hx hb dX9_init_4 rfl (lv_at hl 0 rfl) ?_
  refine lv_iconst (v := 0) hx hb dX9_init_5 (by decide) ?_
  refine n_put F w (a := 73) (C := RX9) (T := TX9) (N := 6) (ci := 9) (k := 0) (x := .int 0) (ty := .int) (fs1 := [.int 0, .int 0, .int 0, .int 0, .null, .null]) tyX9 tyX9_ok nmX9 (by decide) (h0) rfl rfl inT9 (by decide) rfl tb_0 rfl (by decide +kernel) rfl rfl (Nat.le_of_ble_eq_true rfl) dX9_init_6 (fun H locs w => ?_)
  rw [up_same (h0)] at w
  refine lv_aload_n hx hb dX9_init_9 rfl (lv_at hl 0 rfl) ?_
  refine lv_iconst (v := 0) hx hb dX9_init_10 (by decide) ?_
  refine n_put F w (a := 73) (C := RX9) (T := TX9) (N := 6) (ci := 9) (k := 1) (x := .int 0) (ty := .int) (fs1 := [.int 0, .int 0, .int 0, .int 0, .null, .null]) tyX9 tyX9_ok nmX9 (by decide) (h0) rfl rfl inT9 (by decide) rfl tb_1 rfl (by decide +kernel) rfl rfl (Nat.le_of_ble_eq_true rfl) dX9_init_11 (fun H locs w => ?_)
  rw [up_same (h0)] at w
  refine lv_aload_n hx hb dX9_init_14 rfl (lv_at hl 0 rfl) ?_
  refine lv_iconst (v := 0) hx hb dX9_init_15 (by decide) ?_
  refine n_put F w (a := 73) (C := RX9) (T := TX9) (N := 6) (ci := 9) (k := 2) (x := .int 0) (ty := .int) (fs1 := [.int 0, .int 0, .int 0, .int 0, .null, .null]) tyX9 tyX9_ok nmX9 (by decide) (h0) rfl rfl inT9 (by decide) rfl tb_11 rfl (by decide +kernel) rfl rfl (Nat.le_of_ble_eq_true rfl) dX9_init_16 (fun H locs w => ?_)
  rw [up_same (h0)] at w
  refine lv_aload_n hx hb dX9_init_19 rfl (lv_at hl 0 rfl) ?_
  refine lv_iconst (v := 0) hx hb dX9_init_20 (by decide) ?_
  refine n_put F w (a := 73) (C := RX9) (T := TX9) (N := 6) (ci := 9) (k := 3) (x := .int 0) (ty := .int) (fs1 := [.int 0, .int 0, .int 0, .int 0, .null, .null]) tyX9 tyX9_ok nmX9 (by decide) (h0) rfl rfl inT9 (by decide) rfl tb_12 rfl (by decide +kernel) rfl rfl (Nat.le_of_ble_eq_true rfl) dX9_init_21 (fun H locs w => ?_)
  rw [up_same (h0)] at w
  refine lv_aload_n hx hb dX9_init_24 rfl (lv_at hl 0 rfl) ?_
  refine lv_bipush (v := 12) hx hb dX9_init_25 (by decide) ?_
  refine n_newa F w (atype := .int) (ty := .int) (t := 2) (N := 12) (cA := cy 2) (a0 := (12, .inl (fun _ => 0))) tb_741 rfl (fun _ h => h) rfl (fun _ => rfl) (by decide) (by decide) (Nat.le_of_ble_eq_true rfl) (Nat.le_of_ble_eq_true rfl) (Nat.le_of_ble_eq_true rfl) (c1 := 1) (s1 := 12) (n1 := 75) rfl rfl rfl dX9_init_27 (fun H w => ?_)
  refine n_putF F w (a := 73) (C := RX9) (T := TX9) (N := 6) (ci := 9) (k := 4) (x := .ref (B + 74)) (ty := .array .int) (fs1 := [.int 0, .int 0, .int 0, .int 0, .ref (B + 74), .null]) tyX9 tyX9_ok nmX9 (by decide) ((up_ne (by decide)).trans h0) rfl rfl inT9 (by decide) rfl tb_7 rfl hin rfl (by decide +kernel) rfl rfl (Nat.le_of_ble_eq_true rfl) dX9_init_29 (fun H locs w => ?_)
  refine lv_aload_n hx hb dX9_init_32 rfl (lv_at hl 0 rfl) ?_
  refine lv_bipush (v := 12) hx hb dX9_init_33 (by decide) ?_
  refine n_newa F w (atype := .int) (ty := .int) (t := 2) (N := 12) (cA := cy 2) (a0 := (12, .inl (fun _ => 0))) tb_741 rfl (fun _ h => h) rfl (fun _ => rfl) (by decide) (by decide) (Nat.le_of_ble_eq_true rfl) (Nat.le_of_ble_eq_true rfl) (Nat.le_of_ble_eq_true rfl) (c1 := 2) (s1 := 24) (n1 := 76) rfl rfl rfl dX9_init_35 (fun H w => ?_)
  refine n_putF F w (a := 73) (C := RX9) (T := TX9) (N := 6) (ci := 9) (k := 5) (x := .ref (B + 75)) (ty := .array .int) (fs1 := [.int 0, .int 0, .int 0, .int 0, .ref (B + 74), .ref (B + 75)]) tyX9 tyX9_ok nmX9 (by decide) ((up_ne (by decide)).trans up_at) rfl rfl inT9 (by decide) rfl tb_6 rfl hin rfl (by decide +kernel) rfl rfl (Nat.le_of_ble_eq_true rfl) dX9_init_37 (fun H locs w => ?_)
  exact n_end F w hr hlocks dX9_init_40
theorem dX2_init_43 : decode cX2_init 43 = .ok (.aastore, 1) := dq0 kk_83 (by decide +kernel)
theorem dX2_init_44 : decode cX2_init 44 = .ok (.iinc 1 1, 3) := dqI kk_132 (by decide +kernel)
theorem dX2_init_47 : decode cX2_init 47 = .ok (.goto (-22), 3) := dqT kk_167 (by decide +kernel)
set_option maxRecDepth 8000 in
theorem n_X9_init_32 {l : Launch} {D : va_G} {B : Nat} {cy : Nat → ClassId} {E : Nat → va_E} (h0 : E 76 = .inr (9, [.int 0, .int 0, .int 0, .int 0, .null, .null])) : Cn l D B cy yX9_init cX9_init 1 1 12 2 24 [.ref (B + 76)] 77 E 79 (va_up (va_up (va_up (va_up E 77 (.inl (cy 2, 12, .inl (fun _ => 0)))) 76 (.inr (9, [.int 0, .int 0, .int 0, .int 0, .ref (B + 77), .null]))) 78 (.inl (cy 2, 12, .inl (fun _ => 0)))) 76 (.inr (9, [.int 0, .int 0, .int 0, .int 0, .ref (B + 77), .ref (B + 78)]))) := by
  refine n_start (by decide) (Nat.le_of_ble_eq_true rfl) rfl ?_
  intro p e s m below meth c ls F hr hlocks hin w hl
  have F : CallFix p m c cX9_init 1 s _ TB RX9 := F
  have hx := F.1
  have hb := F.2.1
  have hl : lv_has ls 1 [(0, .ref (B + 76))] := hl
  refine lv_aload_n hx hb dX9_init_0 rfl (lv_at hl 0 rfl) ?_
  refine n_obj F hl.1 tb_755 tb_723 tk_obj dX9_init_1 (Nat.le_of_ble_eq_true rfl) (Nat.le_of_ble_eq_true rfl) ?_
  refine lv_aload_n hx hb dX9_init_4 rfl (lv_at hl 0 rfl) ?_
  refine lv_iconst (v := 0) hx hb dX9_init_5 (by decide) ?_
  refine n_put F w (a := 76) (C := RX9) (T := TX9) (N := 6) (ci := 9) (k := 0) (x := .int 0) (ty := .int) (fs1 := [.int 0, .int 0, .int 0, .int 0, .null, .null]) tyX9 tyX9_ok nmX9 (by decide) (h0) rfl rfl inT9 (by decide) rfl tb_0 rfl (by decide +kernel) rfl rfl (Nat.le_of_ble_eq_true rfl) dX9_init_6 (fun H locs w => ?_)
  rw [up_same (h0)] at w
  refine lv_aload_n hx hb dX9_init_9 rfl (lv_at hl 0 rfl) ?_
  refine lv_iconst (v := 0) hx hb dX9_init_10 (by decide) ?_
  refine n_put F w (a := 76) (C := RX9) (T := TX9) (N := 6) (ci := 9) (k := 1) (x := .int 0) (ty := .int) (fs1 := [.int 0, .int 0, .int 0, .int 0, .null, .null]) tyX9 tyX9_ok nmX9 (by decide) (h0) rfl rfl inT9 (by decide) rfl tb_1 rfl (by decide +kernel) rfl rfl (Nat.le_of_ble_eq_true rfl) dX9_init_11 (fun H locs w => ?_)
  rw [up_same (h0)] at w
  refine lv_aload_n hx hb dX9_init_14 rfl (lv_at hl 0 rfl) ?_
  refine lv_iconst (v := 0) hx hb dX9_init_15 (by decide) ?_
  refine n_put F w (a := 76) (C := RX9) (T := TX9) (N := 6) (ci := 9) (k := 2) (x := .int 0) (ty := .int) (fs1 := [.int 0, .int 0, .int 0, .int 0, .null, .null]) tyX9 tyX9_ok nmX9 (by decide) (h0) rfl rfl inT9 (by decide) rfl tb_11 rfl (by decide +kernel) rfl rfl (Nat.le_of_ble_eq_true rfl) dX9_init_16 (fun H locs w => ?_)
  rw [up_same (h0)] at w
  refine lv_aload_n hx hb dX9_init_19 rfl (lv_at hl 0 rfl) ?_
  refine lv_iconst (v := 0) hx hb dX9_init_20 (by decide) ?_
  refine n_put F w (a := 76) (C := RX9) (T := TX9) (N := 6) (ci := 9) (k := 3) (x := .int 0) (ty := .int) (fs1 := [.int 0, .int 0, .int 0, .int 0, .null, .null]) tyX9 tyX9_ok nmX9 (by decide) (h0) rfl rfl inT9 (by decide) rfl tb_12 rfl (by decide +kernel) rfl rfl (Nat.le_of_ble_eq_true rfl) dX9_init_21 (fun H locs w => ?_)
  rw [up_same (h0)] at w
  refine lv_aload_n hx hb dX9_init_24 rfl (lv_at hl 0 rfl) ?_
  refine lv_bipush (v := 12) hx hb dX9_init_25 (by decide) ?_
  refine n_newa F w (atype := .int) (ty := .int) (t := 2) (N := 12) (cA := cy 2) (a0 := (12, .inl (fun _ => 0))) tb_741 rfl (fun _ h => h) rfl (fun _ => rfl) (by decide) (by decide) (Nat.le_of_ble_eq_true rfl) (Nat.le_of_ble_eq_true rfl) (Nat.le_of_ble_eq_true rfl) (c1 := 1) (s1 := 12) (n1 := 78) rfl rfl rfl dX9_init_27 (fun H w => ?_)
  refine n_putF F w (a := 76) (C := RX9) (T := TX9) (N := 6) (ci := 9) (k := 4) (x := .ref (B + 77)) (ty := .array .int) (fs1 := [.int 0, .int 0, .int 0, .int 0, .ref (B + 77), .null]) tyX9 tyX9_ok nmX9 (by decide) ((up_ne (by decide)).trans h0) rfl rfl inT9 (by decide) rfl tb_7 rfl hin rfl (by decide +kernel) rfl rfl (Nat.le_of_ble_eq_true rfl) dX9_init_29 (fun H locs w => ?_)
  refine lv_aload_n hx hb dX9_init_32 rfl (lv_at hl 0 rfl) ?_
  refine lv_bipush (v := 12) hx hb dX9_init_33 (by decide) ?_
  refine n_newa F w (atype := .int) (ty := .int) (t := 2) (N := 12) (cA := cy 2) (a0 := (12, .inl (fun _ => 0))) tb_741 rfl (fun _ h => h) rfl (fun _ => rfl) (by decide) (by decide) (Nat.le_of_ble_eq_true rfl) (Nat.le_of_ble_eq_true rfl) (Nat.le_of_ble_eq_true rfl) (c1 := 2) (s1 := 24) (n1 := 79) rfl rfl rfl dX9_init_35 (fun H w => ?_)
  refine n_putF F w (a := 76) (C := RX9) (T := TX9) (N := 6) (ci := 9) (k := 5) (x := .ref (B + 78)) (ty := .array .int) (fs1 := [.int 0, .int 0, .int 0, .int 0, .ref (B + 77), .ref (B + 78)]) tyX9 tyX9_ok nmX9 (by decide) ((up_ne (by decide)).trans up_at) rfl rfl inT9 (by decide) rfl tb_6 rfl hin rfl (by decide +kernel) rfl rfl (Nat.le_of_ble_eq_true rfl) dX9_init_37 (fun H locs w => ?_)
  exact n_end F w hr hlocks dX9_init_40
set_option maxRecDepth 8000 in
theorem n_X9_init_33 {l : Launch} {D : va_G} {B : Nat} {cy : Nat → ClassId} {E : Nat → va_E} (h0 : E 79 = .inr (9, [.int 0, .int 0, .int 0, .int 0, .null, .null])) : Cn l D B cy yX9_init cX9_init 1 1 12 2 24 [.ref (B + 79)] 80 E 82 (va_up (va_up (va_up (va_up E 80 (.inl (cy 2, 12, .inl (fun _ => 0)))) 79 (.inr (9, [.int 0, .int 0, .int 0, .int 0, .ref (B + 80), .null]))) 81 (.inl (cy 2, 12, .inl (fun _ => 0)))) 79 (.inr (9, [.int 0, .int 0, .int 0, .int 0, .ref (B + 80), .ref (B + 81)]))) := by
  refine n_start (by decide) (Nat.le_of_ble_eq_true rfl) rfl ?_
  intro p e s m below meth c ls F hr hlocks hin w hl
  have F : CallFix p m c cX9_init 1 s _ TB RX9 := F
  have hx := F.1
  have hb := F.2.1
  have hl : lv_has ls 1 [(0, .ref (B + 79))] := hl
  refine lv_aload_n hx hb dX9_init_0 rfl (lv_at hl 0 rfl) ?_
  refine n_obj F hl.1 tb_755 tb_723 tk_obj dX9_init_1 (Nat.le_of_ble_eq_true rfl) (Nat.le_of_ble_eq_true rfl) ?_
  refine lv_aload_n hx hb dX9_init_4 rfl (lv_at hl 0 rfl) ?_
  refine lv_iconst (v := 0) hx hb dX9_init_5 (by decide) ?_
  refine n_put F w (a := 79) (C := RX9) (T := TX9) (N := 6) (ci := 9) (k := 0) (x := .int 0) (ty := .int) (fs1 := [.int 0, .int 0, .int 0, .int 0, .null, .null]) tyX9 tyX9_ok nmX9 (by decide) (h0) rfl rfl inT9 (by decide) rfl tb_0 rfl (by decide +kernel) rfl rfl (Nat.le_of_ble_eq_true rfl) dX9_init_6 (fun H locs w => ?_)
  rw [up_same (h0)] at w
  refine lv_aload_n hx hb dX9_init_9 rfl (lv_at hl 0 rfl) ?_
  refine lv_iconst (v := 0) hx hb dX9_init_10 (by decide) ?_
  refine n_put F w (a := 79) (C := RX9) (T := TX9) (N := 6) (ci := 9) (k := 1) (x := .int 0) (ty := .int) (fs1 := [.int 0, .int 0, .int 0, .int 0, .null, .null]) tyX9 tyX9_ok nmX9 (by decide) (h0) rfl rfl inT9 (by decide) rfl tb_1 rfl (by decide +kernel) rfl rfl (Nat.le_of_ble_eq_true rfl) dX9_init_11 (fun H locs w => ?_)
  rw [up_same (h0)] at w
  refine lv_aload_n hx hb dX9_init_14 rfl (lv_at hl 0 rfl) ?_
  refine lv_iconst (v := 0) hx hb dX9_init_15 (by decide) ?_
  refine n_put F w (a := 79) (C := RX9) (T := TX9) (N := 6) (ci := 9) (k := 2) (x := .int 0) (ty := .int) (fs1 := [.int 0, .int 0, .int 0, .int 0, .null, .null]) tyX9 tyX9_ok nmX9 (by decide) (h0) rfl rfl inT9 (by decide) rfl tb_11 rfl (by decide +kernel) rfl rfl (Nat.le_of_ble_eq_true rfl) dX9_init_16 (fun H locs w => ?_)
  rw [up_same (h0)] at w
  refine lv_aload_n hx hb dX9_init_19 rfl (lv_at hl 0 rfl) ?_
  refine lv_iconst (v := 0) hx hb dX9_init_20 (by decide) ?_
  refine n_put F w (a := 79) (C := RX9) (T := TX9) (N := 6) (ci := 9) (k := 3) (x := .int 0) (ty := .int) (fs1 := [.int 0, .int 0, .int 0, .int 0, .null, .null]) tyX9 tyX9_ok nmX9 (by decide) (h0) rfl rfl inT9 (by decide) rfl tb_12 rfl (by decide +kernel) rfl rfl (Nat.le_of_ble_eq_true rfl) dX9_init_21 (fun H locs w => ?_)
  rw [up_same (h0)] at w
  refine lv_aload_n hx hb dX9_init_24 rfl (lv_at hl 0 rfl) ?_
  refine lv_bipush (v := 12) hx hb dX9_init_25 (by decide) ?_
  refine n_newa F w (atype := .int) (ty := .int) (t := 2) (N := 12) (cA := cy 2) (a0 := (12, .inl (fun _ => 0))) tb_741 rfl (fun _ h => h) rfl (fun _ => rfl) (by decide) (by decide) (Nat.le_of_ble_eq_true rfl) (Nat.le_of_ble_eq_true rfl) (Nat.le_of_ble_eq_true rfl) (c1 := 1) (s1 := 12) (n1 := 81) rfl rfl rfl dX9_init_27 (fun H w => ?_)
  refine n_putF F w (a := 79) (C := RX9) (T := TX9) (N := 6) (ci := 9) (k := 4) (x := .ref (B + 80)) (ty := .array .int) (fs1 := [.int 0, .int 0, .int 0, .int 0, .ref (B + 80), .null]) tyX9 tyX9_ok nmX9 (by decide) ((up_ne (by decide)).trans h0) rfl rfl inT9 (by decide) rfl tb_7 rfl hin rfl (by decide +kernel) rfl rfl (Nat.le_of_ble_eq_true rfl) dX9_init_29 (fun H locs w => ?_)
  refine lv_aload_n hx hb dX9_init_32 rfl (lv_at hl 0 rfl) ?_
  refine lv_bipush (v := 12) hx hb dX9_init_33 (by decide) ?_
  refine n_newa F w (atype := .int) (ty := .int) (t := 2) (N := 12) (cA := cy 2) (a0 := (12, .inl (fun _ => 0))) tb_741 rfl (fun _ h => h) rfl (fun _ => rfl) (by decide) (by decide) (Nat.le_of_ble_eq_true rfl) (Nat.le_of_ble_eq_true rfl) (Nat.le_of_ble_eq_true rfl) (c1 := 2) (s1 := 24) (n1 := 82) rfl rfl rfl dX9_init_35 (fun H w => ?_)
  refine n_putF F w (a := 79) (C := RX9) (T := TX9) (N := 6) (ci := 9) (k := 5) (x := .ref (B + 81)) (ty := .array .int) (fs1 := [.int 0, .int 0, .int 0, .int 0, .ref (B + 80), .ref (B + 81)]) tyX9 tyX9_ok nmX9 (by decide) ((up_ne (by decide)).trans up_at) rfl rfl inT9 (by decide) rfl tb_6 rfl hin rfl (by decide +kernel) rfl rfl (Nat.le_of_ble_eq_true rfl) dX9_init_37 (fun H locs w => ?_)
  exact n_end F w hr hlocks dX9_init_40
set_option maxRecDepth 8000 in
theorem n_X9_init_34 {l : Launch} {D : va_G} {B : Nat} {cy : Nat → ClassId} {E : Nat → va_E} (h0 : E 82 = .inr (9, [.int 0, .int 0, .int 0, .int 0, .null, .null])) : Cn l D B cy yX9_init cX9_init 1 1 12 2 24 [.ref (B + 82)] 83 E 85 (va_up (va_up (va_up (va_up E 83 (.inl (cy 2, 12, .inl (fun _ => 0)))) 82 (.inr (9, [.int 0, .int 0, .int 0, .int 0, .ref (B + 83), .null]))) 84 (.inl (cy 2, 12, .inl (fun _ => 0)))) 82 (.inr (9, [.int 0, .int 0, .int 0, .int 0, .ref (B + 83), .ref (B + 84)]))) := by
  refine n_start (by decide) (Nat.le_of_ble_eq_true rfl) rfl ?_
  intro p e s m below meth c ls F hr hlocks hin w hl
  have F : CallFix p m c cX9_init 1 s _ TB RX9 := F
  have hx := F.1
  have hb := F.2.1
  have hl : lv_has ls 1 [(0, .ref (B + 82))] := hl
  refine lv_aload_n hx hb dX9_init_0 rfl (lv_at hl 0 rfl) ?_
  refine n_obj F hl.1 tb_755 tb_723 tk_obj dX9_init_1 (Nat.le_of_ble_eq_true rfl) (Nat.le_of_ble_eq_true rfl) ?_
  refine lv_aload_n hx hb dX9_init_4 rfl (lv_at hl 0 rfl) ?_
  refine lv_iconst (v := 0) hx hb dX9_init_5 (by decide) ?_
  refine n_put F w (a := 82) (C := RX9) (T := TX9) (N := 6) (ci := 9) (k := 0) (x := .int 0) (ty := .int) (fs1 := [.int 0, .int 0, .int 0, .int 0, .null, .null]) tyX9 tyX9_ok nmX9 (by decide) (h0) rfl rfl inT9 (by decide) rfl tb_0 rfl (by decide +kernel) rfl rfl (Nat.le_of_ble_eq_true rfl) dX9_init_6 (fun H locs w => ?_)
  rw [up_same (h0)] at w
  refine lv_aload_n hx hb dX9_init_9 rfl (lv_at hl 0 rfl) ?_
  refine lv_iconst (v := 0) hx hb dX9_init_10 (by decide) ?_
  refine n_put F w (a := 82) (C := RX9) (T := TX9) (N := 6) (ci := 9) (k := 1) (x := .int 0) (ty := .int) (fs1 := [.int 0, .int 0, .int 0, .int 0, .null, .null]) tyX9 tyX9_ok nmX9 (by decide) (h0) rfl rfl inT9 (by decide) rfl tb_1 rfl (by decide +kernel) rfl rfl (Nat.le_of_ble_eq_true rfl) dX9_init_11 (fun H locs w => ?_)
  rw [up_same (h0)] at w
  refine lv_aload_n hx hb dX9_init_14 rfl (lv_at hl 0 rfl) ?_
  refine lv_iconst (v := 0) hx hb dX9_init_15 (by decide) ?_
  refine n_put F w (a := 82) (C := RX9) (T := TX9) (N := 6) (ci := 9) (k := 2) (x := .int 0) (ty := .int) (fs1 := [.int 0, .int 0, .int 0, .int 0, .null, .null]) tyX9 tyX9_ok nmX9 (by decide) (h0) rfl rfl inT9 (by decide) rfl tb_11 rfl (by decide +kernel) rfl rfl (Nat.le_of_ble_eq_true rfl) dX9_init_16 (fun H locs w => ?_)
  rw [up_same (h0)] at w
  refine lv_aload_n hx hb dX9_init_19 rfl (lv_at hl 0 rfl) ?_
  refine lv_iconst (v := 0) hx hb dX9_init_20 (by decide) ?_
  refine n_put F w (a := 82) (C := RX9) (T := TX9) (N := 6) (ci := 9) (k := 3) (x := .int 0) (ty := .int) (fs1 := [.int 0, .int 0, .int 0, .int 0, .null, .null]) tyX9 tyX9_ok nmX9 (by decide) (h0) rfl rfl inT9 (by decide) rfl tb_12 rfl (by decide +kernel) rfl rfl (Nat.le_of_ble_eq_true rfl) dX9_init_21 (fun H locs w => ?_)
  rw [up_same (h0)] at w
  refine lv_aload_n hx hb dX9_init_24 rfl (lv_at hl 0 rfl) ?_
  refine lv_bipush (v := 12) hx hb dX9_init_25 (by decide) ?_
  refine n_newa F w (atype := .int) (ty := .int) (t := 2) (N := 12) (cA := cy 2) (a0 := (12, .inl (fun _ => 0))) tb_741 rfl (fun _ h => h) rfl (fun _ => rfl) (by decide) (by decide) (Nat.le_of_ble_eq_true rfl) (Nat.le_of_ble_eq_true rfl) (Nat.le_of_ble_eq_true rfl) (c1 := 1) (s1 := 12) (n1 := 84) rfl rfl rfl dX9_init_27 (fun H w => ?_)
  refine n_putF F w (a := 82) (C := RX9) (T := TX9) (N := 6) (ci := 9) (k := 4) (x := .ref (B + 83)) (ty := .array .int) (fs1 := [.int 0, .int 0, .int 0, .int 0, .ref (B + 83), .null]) tyX9 tyX9_ok nmX9 (by decide) ((up_ne (by decide)).trans h0) rfl rfl inT9 (by decide) rfl tb_7 rfl hin rfl (by decide +kernel) rfl rfl (Nat.le_of_ble_eq_true rfl) dX9_init_29 (fun H locs w => ?_)
  refine lv_aload_n hx hb dX9_init_32 rfl (lv_at hl 0 rfl) ?_
  refine lv_bipush (v := 12) hx hb dX9_init_33 (by decide) ?_
  refine n_newa F w (atype := .int) (ty := .int) (t := 2) (N := 12) (cA := cy 2) (a0 := (12, .inl (fun _ => 0))) tb_741 rfl (fun _ h => h) rfl (fun _ => rfl) (by decide) (by decide) (Nat.le_of_ble_eq_true rfl) (Nat.le_of_ble_eq_true rfl) (Nat.le_of_ble_eq_true rfl) (c1 := 2) (s1 := 24) (n1 := 85) rfl rfl rfl dX9_init_35 (fun H w => ?_)
  refine n_putF F w (a := 82) (C := RX9) (T := TX9) (N := 6) (ci := 9) (k := 5) (x := .ref (B + 84)) (ty := .array .int) (fs1 := [.int 0, .int 0, .int 0, .int 0, .ref (B + 83), .ref (B + 84)]) tyX9 tyX9_ok nmX9 (by decide) ((up_ne (by decide)).trans up_at) rfl rfl inT9 (by decide) rfl tb_6 rfl hin rfl (by decide +kernel) rfl rfl (Nat.le_of_ble_eq_true rfl) dX9_init_37 (fun H locs w => ?_)
  exact n_end F w hr hlocks dX9_init_40
set_option maxRecDepth 8000 in
theorem n_X9_init_35 {l : Launch} {D : va_G} {B : Nat} {cy : Nat → ClassId} {E : Nat → va_E} (h0 : E 85 = .inr (9, [.int 0, .int 0, .int 0, .int 0, .null, .null])) : Cn l D B cy yX9_init cX9_init 1 1 12 2 24 [.ref (B + 85)] 86 E 88 (va_up (va_up (va_up (va_up E 86 (.inl (cy 2, 12, .inl (fun _ => 0)))) 85 (.inr (9, [.int 0, .int 0, .int 0, .int 0, .ref (B + 86), .null]))) 87 (.inl (cy 2, 12, .inl (fun _ => 0)))) 85 (.inr (9, [.int 0, .int 0, .int 0, .int 0, .ref (B + 86), .ref (B + 87)]))) := by
  refine n_start (by decide) (Nat.le_of_ble_eq_true rfl) rfl ?_
  intro p e s m below meth c ls F hr hlocks hin w hl
  have F : CallFix p m c cX9_init 1 s _ TB RX9 := F
  have hx := F.1
  have hb := F.2.1
  have hl : lv_has ls 1 [(0, .ref (B + 85))] := hl
  refine lv_aload_n hx hb dX9_init_0 rfl (lv_at hl 0 rfl) ?_
  refine n_obj F hl.1 tb_755 tb_723 tk_obj dX9_init_1 (Nat.le_of_ble_eq_true rfl) (Nat.le_of_ble_eq_true rfl) ?_
  refine lv_aload_n hx hb dX9_init_4 rfl (lv_at hl 0 rfl) ?_
  refine lv_iconst (v := 0) hx hb dX9_init_5 (by decide) ?_
  refine n_put F w (a := 85) (C := RX9) (T := TX9) (N := 6) (ci := 9) (k := 0) (x := .int 0) (ty := .int) (fs1 := [.int 0, .int 0, .int 0, .int 0, .null, .null]) tyX9 tyX9_ok nmX9 (by decide) (h0) rfl rfl inT9 (by decide) rfl tb_0 rfl (by decide +kernel) rfl rfl (Nat.le_of_ble_eq_true rfl) dX9_init_6 (fun H locs w => ?_)
  rw [up_same (h0)] at w
  refine lv_aload_n hx hb dX9_init_9 rfl (lv_at hl 0 rfl) ?_
  refine lv_iconst (v := 0) hx hb dX9_init_10 (by decide) ?_
  refine n_put F w (a := 85) (C := RX9) (T := TX9) (N := 6) (ci := 9) (k := 1) (x := .int 0) (ty := .int) (fs1 := [.int 0, .int 0, .int 0, .int 0, .null, .null]) tyX9 tyX9_ok nmX9 (by decide) (h0) rfl rfl inT9 (by decide) rfl tb_1 rfl (by decide +kernel) rfl rfl (Nat.le_of_ble_eq_true rfl) dX9_init_11 (fun H locs w => ?_)
  rw [up_same (h0)] at w
  refine lv_aload_n hx hb dX9_init_14 rfl (lv_at hl 0 rfl) ?_
  refine lv_iconst (v := 0) hx hb dX9_init_15 (by decide) ?_
  refine n_put F w (a := 85) (C := RX9) (T := TX9) (N := 6) (ci := 9) (k := 2) (x := .int 0) (ty := .int) (fs1 := [.int 0, .int 0, .int 0, .int 0, .null, .null]) tyX9 tyX9_ok nmX9 (by decide) (h0) rfl rfl inT9 (by decide) rfl tb_11 rfl (by decide +kernel) rfl rfl (Nat.le_of_ble_eq_true rfl) dX9_init_16 (fun H locs w => ?_)
  rw [up_same (h0)] at w
  refine lv_aload_n hx hb dX9_init_19 rfl (lv_at hl 0 rfl) ?_
  refine lv_iconst (v := 0) hx hb dX9_init_20 (by decide) ?_
  refine n_put F w (a := 85) (C := RX9) (T := TX9) (N := 6) (ci := 9) (k := 3) (x := .int 0) (ty := .int) (fs1 := [.int 0, .int 0, .int 0, .int 0, .null, .null]) tyX9 tyX9_ok nmX9 (by decide) (h0) rfl rfl inT9 (by decide) rfl tb_12 rfl (by decide +kernel) rfl rfl (Nat.le_of_ble_eq_true rfl) dX9_init_21 (fun H locs w => ?_)
  rw [up_same (h0)] at w
  refine lv_aload_n hx hb dX9_init_24 rfl (lv_at hl 0 rfl) ?_
  refine lv_bipush (v := 12) hx hb dX9_init_25 (by decide) ?_
  refine n_newa F w (atype := .int) (ty := .int) (t := 2) (N := 12) (cA := cy 2) (a0 := (12, .inl (fun _ => 0))) tb_741 rfl (fun _ h => h) rfl (fun _ => rfl) (by decide) (by decide) (Nat.le_of_ble_eq_true rfl) (Nat.le_of_ble_eq_true rfl) (Nat.le_of_ble_eq_true rfl) (c1 := 1) (s1 := 12) (n1 := 87) rfl rfl rfl dX9_init_27 (fun H w => ?_)
  refine n_putF F w (a := 85) (C := RX9) (T := TX9) (N := 6) (ci := 9) (k := 4) (x := .ref (B + 86)) (ty := .array .int) (fs1 := [.int 0, .int 0, .int 0, .int 0, .ref (B + 86), .null]) tyX9 tyX9_ok nmX9 (by decide) ((up_ne (by decide)).trans h0) rfl rfl inT9 (by decide) rfl tb_7 rfl hin rfl (by decide +kernel) rfl rfl (Nat.le_of_ble_eq_true rfl) dX9_init_29 (fun H locs w => ?_)
  refine lv_aload_n hx hb dX9_init_32 rfl (lv_at hl 0 rfl) ?_
  refine lv_bipush (v := 12) hx hb dX9_init_33 (by decide) ?_
  refine n_newa F w (atype := .int) (ty := .int) (t := 2) (N := 12) (cA := cy 2) (a0 := (12, .inl (fun _ => 0))) tb_741 rfl (fun _ h => h) rfl (fun _ => rfl) (by decide) (by decide) (Nat.le_of_ble_eq_true rfl) (Nat.le_of_ble_eq_true rfl) (Nat.le_of_ble_eq_true rfl) (c1 := 2) (s1 := 24) (n1 := 88) rfl rfl rfl dX9_init_35 (fun H w => ?_)
  refine n_putF F w (a := 85) (C := RX9) (T := TX9) (N := 6) (ci := 9) (k := 5) (x := .ref (B + 87)) (ty := .array .int) (fs1 := [.int 0, .int 0, .int 0, .int 0, .ref (B + 86), .ref (B + 87)]) tyX9 tyX9_ok nmX9 (by decide) ((up_ne (by decide)).trans up_at) rfl rfl inT9 (by decide) rfl tb_6 rfl hin rfl (by decide +kernel) rfl rfl (Nat.le_of_ble_eq_true rfl) dX9_init_37 (fun H locs w => ?_)
  exact n_end F w hr hlocks dX9_init_40
set_option maxRecDepth 8000 in
theorem n_X9_init_36 {l : Launch} {D : va_G} {B : Nat} {cy : Nat → ClassId} {E : Nat → va_E} (h0 : E 88 = .inr (9, [.int 0, .int 0, .int 0, .int 0, .null, .null])) : Cn l D B cy yX9_init cX9_init 1 1 12 2 24 [.ref (B + 88)] 89 E 91 (va_up (va_up (va_up (va_up E 89 (.inl (cy 2, 12, .inl (fun _ => 0)))) 88 (.inr (9, [.int 0, .int 0, .int 0, .int 0, .ref (B + 89), .null]))) 90 (.inl (cy 2, 12, .inl (fun _ => 0)))) 88 (.inr (9, [.int 0, .int 0, .int 0, .int 0, .ref (B + 89), .ref (B + 90)]))) := by
  refine n_start (by decide) (Nat.le_of_ble_eq_true rfl) rfl ?_
  intro p e s m below meth c ls F hr hlocks hin w hl
  have F : CallFix p m c cX9_init 1 s _ TB RX9 := F
  have hx := F.1
  have hb := F.2.1
  have hl : lv_has ls 1 [(0, .ref (B + 88))] := hl
  refine lv_aload_n hx hb dX9_init_0 rfl (lv_at hl 0 rfl) ?_
  refine n_obj F hl.1 tb_755 tb_723 tk_obj dX9_init_1 (Nat.le_of_ble_eq_true rfl) (Nat.le_of_ble_eq_true rfl) ?_
  refine lv_aload_n hx hb dX9_init_4 rfl (lv_at hl 0 rfl) ?_
  refine lv_iconst (v := 0) hx hb dX9_init_5 (by decide) ?_
  refine n_put F w (a := 88) (C := RX9) (T := TX9) (N := 6) (ci := 9) (k := 0) (x := .int 0) (ty := .int) (fs1 := [.int 0, .int 0, .int 0, .int 0, .null, .null]) tyX9 tyX9_ok nmX9 (by decide) (h0) rfl rfl inT9 (by decide) rfl tb_0 rfl (by decide +kernel) rfl rfl (Nat.le_of_ble_eq_true rfl) dX9_init_6 (fun H locs w => ?_)
  rw [up_same (h0)] at w
  refine lv_aload_n hx hb dX9_init_9 rfl (lv_at hl 0 rfl) ?_
  refine lv_iconst (v := 0) hx hb dX9_init_10 (by decide) ?_
  refine n_put F w (a := 88) (C := RX9) (T := TX9) (N := 6) (ci := 9) (k := 1) (x := .int 0) (ty := .int) (fs1 := [.int 0, .int 0, .int 0, .int 0, .null, .null]) tyX9 tyX9_ok nmX9 (by decide) (h0) rfl rfl inT9 (by decide) rfl tb_1 rfl (by decide +kernel) rfl rfl (Nat.le_of_ble_eq_true rfl) dX9_init_11 (fun H locs w => ?_)
  rw [up_same (h0)] at w
  refine lv_aload_n hx hb dX9_init_14 rfl (lv_at hl 0 rfl) ?_
  refine lv_iconst (v := 0) hx hb dX9_init_15 (by decide) ?_
  refine n_put F w (a := 88) (C := RX9) (T := TX9) (N := 6) (ci := 9) (k := 2) (x := .int 0) (ty := .int) (fs1 := [.int 0, .int 0, .int 0, .int 0, .null, .null]) tyX9 tyX9_ok nmX9 (by decide) (h0) rfl rfl inT9 (by decide) rfl tb_11 rfl (by decide +kernel) rfl rfl (Nat.le_of_ble_eq_true rfl) dX9_init_16 (fun H locs w => ?_)
  rw [up_same (h0)] at w
  refine lv_aload_n hx hb dX9_init_19 rfl (lv_at hl 0 rfl) ?_
  refine lv_iconst (v := 0) hx hb dX9_init_20 (by decide) ?_
  refine n_put F w (a := 88) (C := RX9) (T := TX9) (N := 6) (ci := 9) (k := 3) (x := .int 0) (ty := .int) (fs1 := [.int 0, .int 0, .int 0, .int 0, .null, .null]) tyX9 tyX9_ok nmX9 (by decide) (h0) rfl rfl inT9 (by decide) rfl tb_12 rfl (by decide +kernel) rfl rfl (Nat.le_of_ble_eq_true rfl) dX9_init_21 (fun H locs w => ?_)
  rw [up_same (h0)] at w
  refine lv_aload_n hx hb dX9_init_24 rfl (lv_at hl 0 rfl) ?_
  refine lv_bipush (v := 12) hx hb dX9_init_25 (by decide) ?_
  refine n_newa F w (atype := .int) (ty := .int) (t := 2) (N := 12) (cA := cy 2) (a0 := (12, .inl (fun _ => 0))) tb_741 rfl (fun _ h => h) rfl (fun _ => rfl) (by decide) (by decide) (Nat.le_of_ble_eq_true rfl) (Nat.le_of_ble_eq_true rfl) (Nat.le_of_ble_eq_true rfl) (c1 := 1) (s1 := 12) (n1 := 90) rfl rfl rfl dX9_init_27 (fun H w => ?_)
  refine n_putF F w (a := 88) (C := RX9) (T := TX9) (N := 6) (ci := 9) (k := 4) (x := .ref (B + 89)) (ty := .array .int) (fs1 := [.int 0, .int 0, .int 0, .int 0, .ref (B + 89), .null]) tyX9 tyX9_ok nmX9 (by decide) ((up_ne (by decide)).trans h0) rfl rfl inT9 (by decide) rfl tb_7 rfl hin rfl (by decide +kernel) rfl rfl (Nat.le_of_ble_eq_true rfl) dX9_init_29 (fun H locs w => ?_)
  refine lv_aload_n hx hb dX9_init_32 rfl (lv_at hl 0 rfl) ?_
  refine lv_bipush (v := 12) hx hb dX9_init_33 (by decide) ?_
  refine n_newa F w (atype := .int) (ty := .int) (t := 2) (N := 12) (cA := cy 2) (a0 := (12, .inl (fun _ => 0))) tb_741 rfl (fun _ h => h) rfl (fun _ => rfl) (by decide) (by decide) (Nat.le_of_ble_eq_true rfl) (Nat.le_of_ble_eq_true rfl) (Nat.le_of_ble_eq_true rfl) (c1 := 2) (s1 := 24) (n1 := 91) rfl rfl rfl dX9_init_35 (fun H w => ?_)
  refine n_putF F w (a := 88) (C := RX9) (T := TX9) (N := 6) (ci := 9) (k := 5) (x := .ref (B + 90)) (ty := .array .int) (fs1 := [.int 0, .int 0, .int 0, .int 0, .ref (B + 89), .ref (B + 90)]) tyX9 tyX9_ok nmX9 (by decide) ((up_ne (by decide)).trans up_at) rfl rfl inT9 (by decide) rfl tb_6 rfl hin rfl (by decide +kernel) rfl rfl (Nat.le_of_ble_eq_true rfl) dX9_init_37 (fun H locs w => ?_)
  exact n_end F w hr hlocks dX9_init_40
set_option maxRecDepth 8000 in
theorem n_X9_init_37 {l : Launch} {D : va_G} {B : Nat} {cy : Nat → ClassId} {E : Nat → va_E} (h0 : E 91 = .inr (9, [.int 0, .int 0, .int 0, .int 0, .null, .null])) : Cn l D B cy yX9_init cX9_init 1 1 12 2 24 [.ref (B + 91)] 92 E 94 (va_up (va_up (va_up (va_up E 92 (.inl (cy 2, 12, .inl (fun _ => 0)))) 91 (.inr (9, [.int 0, .int 0, .int 0, .int 0, .ref (B + 92), .null]))) 93 (.inl (cy 2, 12, .inl (fun _ => 0)))) 91 (.inr (9, [.int 0, .int 0, .int 0, .int 0, .ref (B + 92), .ref (B + 93)]))) := by
  refine n_start (by decide) (Nat.le_of_ble_eq_true rfl) rfl ?_
  intro p e s m below meth c ls F hr hlocks hin w hl
  have F : CallFix p m c cX9_init 1 s _ TB RX9 := F
  have hx := F.1
  have hb := F.2.1
  have hl : lv_has ls 1 [(0, .ref (B + 91))] := hl
  refine lv_aload_n hx hb dX9_init_0 rfl (lv_at hl 0 rfl) ?_
  refine n_obj F hl.1 tb_755 tb_723 tk_obj dX9_init_1 (Nat.le_of_ble_eq_true rfl) (Nat.le_of_ble_eq_true rfl) ?_
  refine lv_aload_n hx hb dX9_init_4 rfl (lv_at hl 0 rfl) ?_
  refine lv_iconst (v := 0) hx hb dX9_init_5 (by decide) ?_
  refine n_put F w (a := 91) (C := RX9) (T := TX9) (N := 6) (ci := 9) (k := 0) (x := .int 0) (ty := .int) (fs1 := [.int 0, .int 0, .int 0, .int 0, .null, .null]) tyX9 tyX9_ok nmX9 (by decide) (h0) rfl rfl inT9 (by decide) rfl tb_0 rfl (by decide +kernel) rfl rfl (Nat.le_of_ble_eq_true rfl) dX9_init_6 (fun H locs w => ?_)
  rw [up_same (h0)] at w
  refine lv_aload_n hx hb dX9_init_9 rfl (lv_at hl 0 rfl) ?_
  refine lv_iconst (v := 0) hx hb dX9_init_10 (by decide) ?_
  refine n_put F w (a := 91) (C := RX9) (T := TX9) (N := 6) (ci := 9) (k := 1) (x := .int 0) (ty := .int) (fs1 := [.int 0, .int 0, .int 0, .int 0, .null, .null]) tyX9 tyX9_ok nmX9 (by decide) (h0) rfl rfl inT9 (by decide) rfl tb_1 rfl (by decide +kernel) rfl rfl (Nat.le_of_ble_eq_true rfl) dX9_init_11 (fun H locs w => ?_)
  rw [up_same (h0)] at w
  refine lv_aload_n hx hb dX9_init_14 rfl (lv_at hl 0 rfl) ?_
  refine lv_iconst (v := 0) hx hb dX9_init_15 (by decide) ?_
  refine n_put F w (a := 91) (C := RX9) (T := TX9) (N := 6) (ci := 9) (k := 2) (x := .int 0) (ty := .int) (fs1 := [.int 0, .int 0, .int 0, .int 0, .null, .null]) tyX9 tyX9_ok nmX9 (by decide) (h0) rfl rfl inT9 (by decide) rfl tb_11 rfl (by decide +kernel) rfl rfl (Nat.le_of_ble_eq_true rfl) dX9_init_16 (fun H locs w => ?_)
  rw [up_same (h0)] at w
  refine lv_aload_n hx hb dX9_init_19 rfl (lv_at hl 0 rfl) ?_
  refine lv_iconst (v := 0) hx hb dX9_init_20 (by decide) ?_
  refine n_put F w (a := 91) (C := RX9) (T := TX9) (N := 6) (ci := 9) (k := 3) (x := .int 0) (ty := .int) (fs1 := [.int 0, .int 0, .int 0, .int 0, .null, .null]) tyX9 tyX9_ok nmX9 (by decide) (h0) rfl rfl inT9 (by decide) rfl tb_12 rfl (by decide +kernel) rfl rfl (Nat.le_of_ble_eq_true rfl) dX9_init_21 (fun H locs w => ?_)
  rw [up_same (h0)] at w
  refine lv_aload_n hx hb dX9_init_24 rfl (lv_at hl 0 rfl) ?_
  refine lv_bipush (v := 12) hx hb dX9_init_25 (by decide) ?_
  refine n_newa F w (atype := .int) (ty := .int) (t := 2) (N := 12) (cA := cy 2) (a0 := (12, .inl (fun _ => 0))) tb_741 rfl (fun _ h => h) rfl (fun _ => rfl) (by decide) (by decide) (Nat.le_of_ble_eq_true rfl) (Nat.le_of_ble_eq_true rfl) (Nat.le_of_ble_eq_true rfl) (c1 := 1) (s1 := 12) (n1 := 93) rfl rfl rfl dX9_init_27 (fun H w => ?_)
  refine n_putF F w (a := 91) (C := RX9) (T := TX9) (N := 6) (ci := 9) (k := 4) (x := .ref (B + 92)) (ty := .array .int) (fs1 := [.int 0, .int 0, .int 0, .int 0, .ref (B + 92), .null]) tyX9 tyX9_ok nmX9 (by decide) ((up_ne (by decide)).trans h0) rfl rfl inT9 (by decide) rfl tb_7 rfl hin rfl (by decide +kernel) rfl rfl (Nat.le_of_ble_eq_true rfl) dX9_init_29 (fun H locs w => ?_)
  refine lv_aload_n hx hb dX9_init_32 rfl (lv_at hl 0 rfl) ?_
  refine lv_bipush (v := 12) hx hb dX9_init_33 (by decide) ?_
  refine n_newa F w (atype := .int) (ty := .int) (t := 2) (N := 12) (cA := cy 2) (a0 := (12, .inl (fun _ => 0))) tb_741 rfl (fun _ h => h) rfl (fun _ => rfl) (by decide) (by decide) (Nat.le_of_ble_eq_true rfl) (Nat.le_of_ble_eq_true rfl) (Nat.le_of_ble_eq_true rfl) (c1 := 2) (s1 := 24) (n1 := 94) rfl rfl rfl dX9_init_35 (fun H w => ?_)
  refine n_putF F w (a := 91) (C := RX9) (T := TX9) (N := 6) (ci := 9) (k := 5) (x := .ref (B + 93)) (ty := .array .int) (fs1 := [.int 0, .int 0, .int 0, .int 0, .ref (B + 92), .ref (B + 93)]) tyX9 tyX9_ok nmX9 (by decide) ((up_ne (by decide)).trans up_at) rfl rfl inT9 (by decide) rfl tb_6 rfl hin rfl (by decide +kernel) rfl rfl (Nat.le_of_ble_eq_true rfl) dX9_init_37 (fun H locs w => ?_)
  exact n_end F w hr hlocks dX9_init_40
set_option maxRecDepth 8000 in
theorem n_X9_init_38 {l : Launch} {D : va_G} {B : Nat} {cy : Nat → ClassId} {E : Nat → va_E} (h0 : E 94 = .inr (9, [.int 0, .int 0, .int 0, .int 0, .null, .null])) : Cn l D B cy yX9_init cX9_init 1 1 12 2 24 [.ref (B + 94)] 95 E 97 (va_up (va_up (va_up (va_up E 95 (.inl (cy 2, 12, .inl (fun _ => 0)))) 94 (.inr (9, [.int 0, .int 0, .int 0, .int 0, .ref (B + 95), .null]))) 96 (.inl (cy 2, 12, .inl (fun _ => 0)))) 94 (.inr (9, [.int 0, .int 0, .int 0, .int 0, .ref (B + 95), .ref (B + 96)]))) := by
  refine n_start (by decide) (Nat.le_of_ble_eq_true rfl) rfl ?_
  intro p e s m below meth c ls F hr hlocks hin w hl
  have F : CallFix p m c cX9_init 1 s _ TB RX9 := F
  have hx := F.1
  have hb := F.2.1
  have hl : lv_has ls 1 [(0, .ref (B + 94))] := hl
  refine lv_aload_n hx hb dX9_init_0 rfl (lv_at hl 0 rfl) ?_
  refine n_obj F hl.1 tb_755 tb_723 tk_obj dX9_init_1 (Nat.le_of_ble_eq_true rfl) (Nat.le_of_ble_eq_true rfl) ?_
  refine lv_aload_n hx hb dX9_init_4 rfl (lv_at hl 0 rfl) ?_
  refine lv_iconst (v := 0) hx hb dX9_init_5 (by decide) ?_
  refine n_put F w (a := 94) (C := RX9) (T := TX9) (N := 6) (ci := 9) (k := 0) (x := .int 0) (ty := .int) (fs1 := [.int 0, .int 0, .int 0, .int 0, .null, .null]) tyX9 tyX9_ok nmX9 (by decide) (h0) rfl rfl inT9 (by decide) rfl tb_0 rfl (by decide +kernel) rfl rfl (Nat.le_of_ble_eq_true rfl) dX9_init_6 (fun H locs w => ?_)
  rw [up_same (h0)] at w
  refine lv_aload_n hx hb dX9_init_9 rfl (lv_at hl 0 rfl) ?_
  refine lv_iconst (v := 0) hx hb dX9_init_10 (by decide) ?_
  refine n_put F w (a := 94) (C := RX9) (T := TX9) (N := 6) (ci := 9) (k := 1) (x := .int 0) (ty := .int) (fs1 := [.int 0, .int 0, .int 0, .int 0, .null, .null]) tyX9 tyX9_ok nmX9 (by decide) (h0) rfl rfl inT9 (by decide) rfl tb_1 rfl (by decide +kernel) rfl rfl (Nat.le_of_ble_eq_true rfl) dX9_init_11 (fun H locs w => ?_)
  rw [up_same (h0)] at w
  refine lv_aload_n hx hb dX9_init_14 rfl (lv_at hl 0 rfl) ?_
  refine lv_iconst (v := 0) hx hb dX9_init_15 (by decide) ?_
  refine n_put F w (a := 94) (C := RX9) (T := TX9) (N := 6) (ci := 9) (k := 2) (x := .int 0) (ty := .int) (fs1 := [.int 0, .int 0, .int 0, .int 0, .null, .null]) tyX9 tyX9_ok nmX9 (by decide) (h0) rfl rfl inT9 (by decide) rfl tb_11 rfl (by decide +kernel) rfl rfl (Nat.le_of_ble_eq_true rfl) dX9_init_16 (fun H locs w => ?_)
  rw [up_same (h0)] at w
  refine lv_aload_n hx hb dX9_init_19 rfl (lv_at hl 0 rfl) ?_
  refine lv_iconst (v := 0) hx hb dX9_init_20 (by decide) ?_
  refine n_put F w (a := 94) (C := RX9) (T := TX9) (N := 6) (ci := 9) (k := 3) (x := .int 0) (ty := .int) (fs1 := [.int 0, .int 0, .int 0, .int 0, .null, .null]) tyX9 tyX9_ok nmX9 (by decide) (h0) rfl rfl inT9 (by decide) rfl tb_12 rfl (by decide +kernel) rfl rfl (Nat.le_of_ble_eq_true rfl) dX9_init_21 (fun H locs w => ?_)
  rw [up_same (h0)] at w
  refine lv_aload_n hx hb dX9_init_24 rfl (lv_at hl 0 rfl) ?_
  refine lv_bipush (v := 12) hx hb dX9_init_25 (by decide) ?_
  refine n_newa F w (atype := .int) (ty := .int) (t := 2) (N := 12) (cA := cy 2) (a0 := (12, .inl (fun _ => 0))) tb_741 rfl (fun _ h => h) rfl (fun _ => rfl) (by decide) (by decide) (Nat.le_of_ble_eq_true rfl) (Nat.le_of_ble_eq_true rfl) (Nat.le_of_ble_eq_true rfl) (c1 := 1) (s1 := 12) (n1 := 96) rfl rfl rfl dX9_init_27 (fun H w => ?_)
  refine n_putF F w (a := 94) (C := RX9) (T := TX9) (N := 6) (ci := 9) (k := 4) (x := .ref (B + 95)) (ty := .array .int) (fs1 := [.int 0, .int 0, .int 0, .int 0, .ref (B + 95), .null]) tyX9 tyX9_ok nmX9 (by decide) ((up_ne (by decide)).trans h0) rfl rfl inT9 (by decide) rfl tb_7 rfl hin rfl (by decide +kernel) rfl rfl (Nat.le_of_ble_eq_true rfl) dX9_init_29 (fun H locs w => ?_)
  refine lv_aload_n hx hb dX9_init_32 rfl (lv_at hl 0 rfl) ?_
  refine lv_bipush (v := 12) hx hb dX9_init_33 (by decide) ?_
  refine n_newa F w (atype := .int) (ty := .int) (t := 2) (N := 12) (cA := cy 2) (a0 := (12, .inl (fun _ => 0))) tb_741 rfl (fun _ h => h) rfl (fun _ => rfl) (by decide) (by decide) (Nat.le_of_ble_eq_true rfl) (Nat.le_of_ble_eq_true rfl) (Nat.le_of_ble_eq_true rfl) (c1 := 2) (s1 := 24) (n1 := 97) rfl rfl rfl dX9_init_35 (fun H w => ?_)
  refine n_putF F w (a := 94) (C := RX9) (T := TX9) (N := 6) (ci := 9) (k := 5) (x := .ref (B + 96)) (ty := .array .int) (fs1 := [.int 0, .int 0, .int 0, .int 0, .ref (B + 95), .ref (B + 96)]) tyX9 tyX9_ok nmX9 (by decide) ((up_ne (by decide)).trans up_at) rfl rfl inT9 (by decide) rfl tb_6 rfl hin rfl (by decide +kernel) rfl rfl (Nat.le_of_ble_eq_true rfl) dX9_init_37 (fun H locs w => ?_)
  exact n_end F w hr hlocks dX9_init_40
set_option maxRecDepth 8000 in
theorem n_X9_init_39 {l : Launch} {D : va_G} {B : Nat} {cy : Nat → ClassId} {E : Nat → va_E} (h0 : E 97 = .inr (9, [.int 0, .int 0, .int 0, .int 0, .null, .null])) : Cn l D B cy yX9_init cX9_init 1 1 12 2 24 [.ref (B + 97)] 98 E 100 (va_up (va_up (va_up (va_up E 98 (.inl (cy 2, 12, .inl (fun _ => 0)))) 97 (.inr (9, [.int 0, .int 0, .int 0, .int 0, .ref (B + 98), .null]))) 99 (.inl (cy 2, 12, .inl (fun _ => 0)))) 97 (.inr (9, [.int 0, .int 0, .int 0, .int 0, .ref (B + 98), .ref (B + 99)]))) := by
  refine n_start (by decide) (Nat.le_of_ble_eq_true rfl) rfl ?_
  intro p e s m below meth c ls F hr hlocks hin w hl
  have F : CallFix p m c cX9_init 1 s _ TB RX9 := F
  have hx := F.1
  have hb := F.2.1
  have hl : lv_has ls 1 [(0, .ref (B + 97))] := hl
  refine lv_aload_n hx hb dX9_init_0 rfl (lv_at hl 0 rfl) ?_
  refine n_obj F hl.1 tb_755 tb_723 tk_obj dX9_init_1 (Nat.le_of_ble_eq_true rfl) (Nat.le_of_ble_eq_true rfl) ?_
  refine lv_aload_n hx hb dX9_init_4 rfl (lv_at hl 0 rfl) ?_
  refine lv_iconst (v := 0) hx hb dX9_init_5 (by decide) ?_
  refine n_put F w (a := 97) (C := RX9) (T := TX9) (N := 6) (ci := 9) (k := 0) (x := .int 0) (ty := .int) (fs1 := [.int 0, .int 0, .int 0, .int 0, .null, .null]) tyX9 tyX9_ok nmX9 (by decide) (h0) rfl rfl inT9 (by decide) rfl tb_0 rfl (by decide +kernel) rfl rfl (Nat.le_of_ble_eq_true rfl) dX9_init_6 (fun H locs w => ?_)
  rw [up_same (h0)] at w
  refine lv_aload_n hx hb dX9_init_9 rfl (lv_at hl 0 rfl) ?_
  refine lv_iconst (v := 0) hx hb dX9_init_10 (by decide) ?_
  refine n_put F w (a := 97) (C := RX9) (T := TX9) (N := 6) (ci := 9) (k := 1) (x := .int 0) (ty := .int) (fs1 := [.int 0, .int 0, .int 0, .int 0, .null, .null]) tyX9 tyX9_ok nmX9 (by decide) (h0) rfl rfl inT9 (by decide) rfl tb_1 rfl (by decide +kernel) rfl rfl (Nat.le_of_ble_eq_true rfl) dX9_init_11 (fun H locs w => ?_)
  rw [up_same (h0)] at w
  refine lv_aload_n hx hb dX9_init_14 rfl (lv_at hl 0 rfl) ?_
  refine lv_iconst (v := 0) hx hb dX9_init_15 (by decide) ?_
  refine n_put F w (a := 97) (C := RX9) (T := TX9) (N := 6) (ci := 9) (k := 2) (x := .int 0) (ty := .int) (fs1 := [.int 0, .int 0, .int 0, .int 0, .null, .null]) tyX9 tyX9_ok nmX9 (by decide) (h0) rfl rfl inT9 (by decide) rfl tb_11 rfl (by decide +kernel) rfl rfl (Nat.le_of_ble_eq_true rfl) dX9_init_16 (fun H locs w => ?_)
  rw [up_same (h0)] at w
  refine lv_aload_n hx hb dX9_init_19 rfl (lv_at hl 0 rfl) ?_
  refine lv_iconst (v := 0) hx hb dX9_init_20 (by decide) ?_
  refine n_put F w (a := 97) (C := RX9) (T := TX9) (N := 6) (ci := 9) (k := 3) (x := .int 0) (ty := .int) (fs1 := [.int 0, .int 0, .int 0, .int 0, .null, .null]) tyX9 tyX9_ok nmX9 (by decide) (h0) rfl rfl inT9 (by decide) rfl tb_12 rfl (by decide +kernel) rfl rfl (Nat.le_of_ble_eq_true rfl) dX9_init_21 (fun H locs w => ?_)
  rw [up_same (h0)] at w
  refine lv_aload_n hx hb dX9_init_24 rfl (lv_at hl 0 rfl) ?_
  refine lv_bipush (v := 12) hx hb dX9_init_25 (by decide) ?_
  refine n_newa F w (atype := .int) (ty := .int) (t := 2) (N := 12) (cA := cy 2) (a0 := (12, .inl (fun _ => 0))) tb_741 rfl (fun _ h => h) rfl (fun _ => rfl) (by decide) (by decide) (Nat.le_of_ble_eq_true rfl) (Nat.le_of_ble_eq_true rfl) (Nat.le_of_ble_eq_true rfl) (c1 := 1) (s1 := 12) (n1 := 99) rfl rfl rfl dX9_init_27 (fun H w => ?_)
  refine n_putF F w (a := 97) (C := RX9) (T := TX9) (N := 6) (ci := 9) (k := 4) (x := .ref (B + 98)) (ty := .array .int) (fs1 := [.int 0, .int 0, .int 0, .int 0, .ref (B + 98), .null]) tyX9 tyX9_ok nmX9 (by decide) ((up_ne (by decide)).trans h0) rfl rfl inT9 (by decide) rfl tb_7 rfl hin rfl (by decide +kernel) rfl rfl (Nat.le_of_ble_eq_true rfl) dX9_init_29 (fun H locs w => ?_)
  refine lv_aload_n hx hb dX9_init_32 rfl (lv_at hl 0 rfl) ?_
  refine lv_bipush (v := 12) hx hb dX9_init_33 (by decide) ?_
  refine n_newa F w (atype := .int) (ty := .int) (t := 2) (N := 12) (cA := cy 2) (a0 := (12, .inl (fun _ => 0))) tb_741 rfl (fun _ h => h) rfl (fun _ => rfl) (by decide) (by decide) (Nat.le_of_ble_eq_true rfl) (Nat.le_of_ble_eq_true rfl) (Nat.le_of_ble_eq_true rfl) (c1 := 2) (s1 := 24) (n1 := 100) rfl rfl rfl dX9_init_35 (fun H w => ?_)
  refine n_putF F w (a := 97) (C := RX9) (T := TX9) (N := 6) (ci := 9) (k := 5) (x := .ref (B + 99)) (ty := .array .int) (fs1 := [.int 0, .int 0, .int 0, .int 0, .ref (B + 98), .ref (B + 99)]) tyX9 tyX9_ok nmX9 (by decide) ((up_ne (by decide)).trans up_at) rfl rfl inT9 (by decide) rfl tb_6 rfl hin rfl (by decide +kernel) rfl rfl (Nat.le_of_ble_eq_true rfl) dX9_init_37 (fun H locs w => ?_)
  exact n_end F w hr hlocks dX9_init_40
set_option maxRecDepth 8000 in
theorem n_X9_init_40 {l : Launch} {D : va_G} {B : Nat} {cy : Nat → ClassId} {E : Nat → va_E} (h0 : E 100 = .inr (9, [.int 0, .int 0, .int 0, .int 0, .null, .null])) : Cn l D B cy yX9_init cX9_init 1 1 12 2 24 [.ref (B + 100)] 101 E 103 (va_up (va_up (va_up (va_up E 101 (.inl (cy 2, 12, .inl (fun _ => 0)))) 100 (.inr (9, [.int 0, .int 0, .int 0, .int 0, .ref (B + 101), .null]))) 102 (.inl (cy 2, 12, .inl (fun _ => 0)))) 100 (.inr (9, [.int 0, .int 0, .int 0, .int 0, .ref (B + 101), .ref (B + 102)]))) := by
  refine n_start (by decide) (Nat.le_of_ble_eq_true rfl) rfl ?_
  intro p e s m below meth c ls F hr hlocks hin w hl
  have F : CallFix p m c cX9_init 1 s _ TB RX9 := F
  have hx := F.1
  have hb := F.2.1
  have hl : lv_has ls 1 [(0, .ref (B + 100))] := hl
  refine lv_aload_n hx hb dX9_init_0 rfl (lv_at hl 0 rfl) ?_
  refine n_obj F hl.1 tb_755 tb_723 tk_obj dX9_init_1 (Nat.le_of_ble_eq_true rfl) (Nat.le_of_ble_eq_true rfl) ?_
  refine lv_aload_n hx hb dX9_init_4 rfl (lv_at hl 0 rfl) ?_
  refine lv_iconst (v := 0) hx hb dX9_init_5 (by decide) ?_
  refine n_put F w (a := 100) (C := RX9) (T := TX9) (N := 6) (ci := 9) (k := 0) (x := .int 0) (ty := .int) (fs1 := [.int 0, .int 0, .int 0, .int 0, .null, .null]) tyX9 tyX9_ok nmX9 (by decide) (h0) rfl rfl inT9 (by decide) rfl tb_0 rfl (by decide +kernel) rfl rfl (Nat.le_of_ble_eq_true rfl) dX9_init_6 (fun H locs w => ?_)
  rw [up_same (h0)] at w
  refine lv_aload_n hx hb dX9_init_9 rfl (lv_at hl 0 rfl) ?_
  refine lv_iconst (v := 0) hx hb dX9_init_10 (by decide) ?_
  refine n_put F w (a := 100) (C := RX9) (T := TX9) (N := 6) (ci := 9) (k := 1) (x := .int 0) (ty := .int) (fs1 := [.int 0, .int 0, .int 0, .int 0, .null, .null]) tyX9 tyX9_ok nmX9 (by decide) (h0) rfl rfl inT9 (by decide) rfl tb_1 rfl (by decide +kernel) rfl rfl (Nat.le_of_ble_eq_true rfl) dX9_init_11 (fun H locs w => ?_)
  rw [up_same (h0)] at w
  refine lv_aload_n hx hb dX9_init_14 rfl (lv_at hl 0 rfl) ?_
  refine lv_iconst (v := 0) hx hb dX9_init_15 (by decide) ?_
  refine n_put F w (a := 100) (C := RX9) (T := TX9) (N := 6) (ci := 9) (k := 2) (x := .int 0) (ty := .int) (fs1 := [.int 0, .int 0, .int 0, .int 0, .null, .null]) tyX9 tyX9_ok nmX9 (by decide) (h0) rfl rfl inT9 (by decide) rfl tb_11 rfl (by decide +kernel) rfl rfl (Nat.le_of_ble_eq_true rfl) dX9_init_16 (fun H locs w => ?_)
  rw [up_same (h0)] at w
  refine lv_aload_n hx hb dX9_init_19 rfl (lv_at hl 0 rfl) ?_
  refine lv_iconst (v := 0) hx hb dX9_init_20 (by decide) ?_
  refine n_put F w (a := 100) (C := RX9) (T := TX9) (N := 6) (ci := 9) (k := 3) (x := .int 0) (ty := .int) (fs1 := [.int 0, .int 0, .int 0, .int 0, .null, .null]) tyX9 tyX9_ok nmX9 (by decide) (h0) rfl rfl inT9 (by decide) rfl tb_12 rfl (by decide +kernel) rfl rfl (Nat.le_of_ble_eq_true rfl) dX9_init_21 (fun H locs w => ?_)
  rw [up_same (h0)] at w
  refine lv_aload_n hx hb dX9_init_24 rfl (lv_at hl 0 rfl) ?_
  refine lv_bipush (v := 12) hx hb dX9_init_25 (by decide) ?_
  refine n_newa F w (atype := .int) (ty := .int) (t := 2) (N := 12) (cA := cy 2) (a0 := (12, .inl (fun _ => 0))) tb_741 rfl (fun _ h => h) rfl (fun _ => rfl) (by decide) (by decide) (Nat.le_of_ble_eq_true rfl) (Nat.le_of_ble_eq_true rfl) (Nat.le_of_ble_eq_true rfl) (c1 := 1) (s1 := 12) (n1 := 102) rfl rfl rfl dX9_init_27 (fun H w => ?_)
  refine n_putF F w (a := 100) (C := RX9) (T := TX9) (N := 6) (ci := 9) (k := 4) (x := .ref (B + 101)) (ty := .array .int) (fs1 := [.int 0, .int 0, .int 0, .int 0, .ref (B + 101), .null]) tyX9 tyX9_ok nmX9 (by decide) ((up_ne (by decide)).trans h0) rfl rfl inT9 (by decide) rfl tb_7 rfl hin rfl (by decide +kernel) rfl rfl (Nat.le_of_ble_eq_true rfl) dX9_init_29 (fun H locs w => ?_)
  refine lv_aload_n hx hb dX9_init_32 rfl (lv_at hl 0 rfl) ?_
  refine lv_bipush (v := 12) hx hb dX9_init_33 (by decide) ?_
  refine n_newa F w (atype := .int) (ty := .int) (t := 2) (N := 12) (cA := cy 2) (a0 := (12, .inl (fun _ => 0))) tb_741 rfl (fun _ h => h) rfl (fun _ => rfl) (by decide) (by decide) (Nat.le_of_ble_eq_true rfl) (Nat.le_of_ble_eq_true rfl) (Nat.le_of_ble_eq_true rfl) (c1 := 2) (s1 := 24) (n1 := 103) rfl rfl rfl dX9_init_35 (fun H w => ?_)
  refine n_putF F w (a := 100) (C := RX9) (T := TX9) (N := 6) (ci := 9) (k := 5) (x := .ref (B + 102)) (ty := .array .int) (fs1 := [.int 0, .int 0, .int 0, .int 0, .ref (B + 101), .ref (B + 102)]) tyX9 tyX9_ok nmX9 (by decide) ((up_ne (by decide)).trans up_at) rfl rfl inT9 (by decide) rfl tb_6 rfl hin rfl (by decide +kernel) rfl rfl (Nat.le_of_ble_eq_true rfl) dX9_init_37 (fun H locs w => ?_)
  exact n_end F w hr hlocks dX9_init_40
set_option maxRecDepth 8000 in
theorem n_X9_init_41 {l : Launch} {D : va_G} {B : Nat} {cy : Nat → ClassId} {E : Nat → va_E} (h0 : E 103 = .inr (9, [.int 0, .int 0, .int 0, .int 0, .null, .null])) : Cn l D B cy yX9_init cX9_init 1 1 12 2 24 [.ref (B + 103)] 104 E 106 (va_up (va_up (va_up (va_up E 104 (.inl (cy 2, 12, .inl (fun _ => 0)))) 103 (.inr (9, [.int 0, .int 0, .int 0, .int 0, .ref (B + 104), .null]))) 105 (.inl (cy 2, 12, .inl (fun _ => 0)))) 103 (.inr (9, [.int 0, .int 0, .int 0, .int 0, .ref (B + 104), .ref (B + 105)]))) := by
  refine n_start (by decide) (Nat.le_of_ble_eq_true rfl) rfl ?_
  intro p e s m below meth c ls F hr hlocks hin w hl
  have F : CallFix p m c cX9_init 1 s _ TB RX9 := F
  have hx := F.1
  have hb := F.2.1
  have hl : lv_has ls 1 [(0, .ref (B + 103))] := hl
  refine lv_aload_n hx hb dX9_init_0 rfl (lv_at hl 0 rfl) ?_
  refine n_obj F hl.1 tb_755 tb_723 tk_obj dX9_init_1 (Nat.le_of_ble_eq_true rfl) (Nat.le_of_ble_eq_true rfl) ?_
  refine lv_aload_n hx hb dX9_init_4 rfl (lv_at hl 0 rfl) ?_
  refine lv_iconst (v := 0) hx hb dX9_init_5 (by decide) ?_
  refine n_put F w (a := 103) (C := RX9) (T := TX9) (N := 6) (ci := 9) (k := 0) (x := .int 0) (ty := .int) (fs1 := [.int 0, .int 0, .int 0, .int 0, .null, .null]) tyX9 tyX9_ok nmX9 (by decide) (h0) rfl rfl inT9 (by decide) rfl tb_0 rfl (by decide +kernel) rfl rfl (Nat.le_of_ble_eq_true rfl) dX9_init_6 (fun H locs w => ?_)
  rw [up_same (h0)] at w
  refine lv_aload_n hx hb dX9_init_9 rfl (lv_at hl 0 rfl) ?_
  refine lv_iconst (v := 0) hx hb dX9_init_10 (by decide) ?_
  refine n_put F w (a := 103) (C := RX9) (T := TX9) (N := 6) (ci := 9) (k := 1) (x := .int 0) (ty := .int) (fs1 := [.int 0, .int 0, .int 0, .int 0, .null, .null]) tyX9 tyX9_ok nmX9 (by decide) (h0) rfl rfl inT9 (by decide) rfl tb_1 rfl (by decide +kernel) rfl rfl (Nat.le_of_ble_eq_true rfl) dX9_init_11 (fun H locs w => ?_)
  rw [up_same (h0)] at w
  refine lv_aload_n hx hb dX9_init_14 rfl (lv_at hl 0 rfl) ?_
  refine lv_iconst (v := 0) hx hb dX9_init_15 (by decide) ?_
  refine n_put F w (a := 103) (C := RX9) (T := TX9) (N := 6) (ci := 9) (k := 2) (x := .int 0) (ty := .int) (fs1 := [.int 0, .int 0, .int 0, .int 0, .null, .null]) tyX9 tyX9_ok nmX9 (by decide) (h0) rfl rfl inT9 (by decide) rfl tb_11 rfl (by decide +kernel) rfl rfl (Nat.le_of_ble_eq_true rfl) dX9_init_16 (fun H locs w => ?_)
  rw [up_same (h0)] at w
  refine lv_aload_n hx hb dX9_init_19 rfl (lv_at hl 0 rfl) ?_
  refine lv_iconst (v := 0) hx hb dX9_init_20 (by decide) ?_
  refine n_put F w (a := 103) (C := RX9) (T := TX9) (N := 6) (ci := 9) (k := 3) (x := .int 0) (ty := .int) (fs1 := [.int 0, .int 0, .int 0, .int 0, .null, .null]) tyX9 tyX9_ok nmX9 (by decide) (h0) rfl rfl inT9 (by decide) rfl tb_12 rfl (by decide +kernel) rfl rfl (Nat.le_of_ble_eq_true rfl) dX9_init_21 (fun H locs w => ?_)
  rw [up_same (h0)] at w
  refine lv_aload_n hx hb dX9_init_24 rfl (lv_at hl 0 rfl) ?_
  refine lv_bipush (v := 12) hx hb dX9_init_25 (by decide) ?_
  refine n_newa F w (atype := .int) (ty := .int) (t := 2) (N := 12) (cA := cy 2) (a0 := (12, .inl (fun _ => 0))) tb_741 rfl (fun _ h => h) rfl (fun _ => rfl) (by decide) (by decide) (Nat.le_of_ble_eq_true rfl) (Nat.le_of_ble_eq_true rfl) (Nat.le_of_ble_eq_true rfl) (c1 := 1) (s1 := 12) (n1 := 105) rfl rfl rfl dX9_init_27 (fun H w => ?_)
  refine n_putF F w (a := 103) (C := RX9) (T := TX9) (N := 6) (ci := 9) (k := 4) (x := .ref (B + 104)) (ty := .array .int) (fs1 := [.int 0, .int 0, .int 0, .int 0, .ref (B + 104), .null]) tyX9 tyX9_ok nmX9 (by decide) ((up_ne (by decide)).trans h0) rfl rfl inT9 (by decide) rfl tb_7 rfl hin rfl (by decide +kernel) rfl rfl (Nat.le_of_ble_eq_true rfl) dX9_init_29 (fun H locs w => ?_)
  refine lv_aload_n hx hb dX9_init_32 rfl (lv_at hl 0 rfl) ?_
  refine lv_bipush (v := 12) hx hb dX9_init_33 (by decide) ?_
  refine n_newa F w (atype := .int) (ty := .int) (t := 2) (N := 12) (cA := cy 2) (a0 := (12, .inl (fun _ => 0))) tb_741 rfl (fun _ h => h) rfl (fun _ => rfl) (by decide) (by decide) (Nat.le_of_ble_eq_true rfl) (Nat.le_of_ble_eq_true rfl) (Nat.le_of_ble_eq_true rfl) (c1 := 2) (s1 := 24) (n1 := 106) rfl rfl rfl dX9_init_35 (fun H w => ?_)
  refine n_putF F w (a := 103) (C := RX9) (T := TX9) (N := 6) (ci := 9) (k := 5) (x := .ref (B + 105)) (ty := .array .int) (fs1 := [.int 0, .int 0, .int 0, .int 0, .ref (B + 104), .ref (B + 105)]) tyX9 tyX9_ok nmX9 (by decide) ((up_ne (by decide)).trans up_at) rfl rfl inT9 (by decide) rfl tb_6 rfl hin rfl (by decide +kernel) rfl rfl (Nat.le_of_ble_eq_true rfl) dX9_init_37 (fun H locs w => ?_)
  exact n_end F w hr hlocks dX9_init_40
set_option maxRecDepth 8000 in
theorem n_X9_init_42 {l : Launch} {D : va_G} {B : Nat} {cy : Nat → ClassId} {E : Nat → va_E} (h0 : E 106 = .inr (9, [.int 0, .int 0, .int 0, .int 0, .null, .null])) : Cn l D B cy yX9_init cX9_init 1 1 12 2 24 [.ref (B + 106)] 107 E 109 (va_up (va_up (va_up (va_up E 107 (.inl (cy 2, 12, .inl (fun _ => 0)))) 106 (.inr (9, [.int 0, .int 0, .int 0, .int 0, .ref (B + 107), .null]))) 108 (.inl (cy 2, 12, .inl (fun _ => 0)))) 106 (.inr (9, [.int 0, .int 0, .int 0, .int 0, .ref (B + 107), .ref (B + 108)]))) := by
  refine n_start (by decide) (Nat.le_of_ble_eq_true rfl) rfl ?_
  intro p e s m below meth c ls F hr hlocks hin w hl
  have F : CallFix p m c cX9_init 1 s _ TB RX9 := F
  have hx := F.1
  have hb := F.2.1
  have hl : lv_has ls 1 [(0, .ref (B + 106))] := hl
  refine lv_aload_n hx hb dX9_init_0 rfl (lv_at hl 0 rfl) ?_
  refine n_obj F hl.1 tb_755 tb_723 tk_obj dX9_init_1 (Nat.le_of_ble_eq_true rfl) (Nat.le_of_ble_eq_true rfl) ?_
  refine lv_aload_n hx hb dX9_init_4 rfl (lv_at hl 0 rfl) ?_
  refine lv_iconst (v := 0) hx hb dX9_init_5 (by decide) ?_
  refine n_put F w (a := 106) (C := RX9) (T := TX9) (N := 6) (ci := 9) (k := 0) (x := .int 0) (ty := .int) (fs1 := [.int 0, .int 0, .int 0, .int 0, .null, .null]) tyX9 tyX9_ok nmX9 (by decide) (h0) rfl rfl inT9 (by decide) rfl tb_0 rfl (by decide +kernel) rfl rfl (Nat.le_of_ble_eq_true rfl) dX9_init_6 (fun H locs w => ?_)
  rw [up_same (h0)] at w
  refine lv_aload_n hx hb dX9_init_9 rfl (lv_at hl 0 rfl) ?_
  refine lv_iconst (v := 0) hx hb dX9_init_10 (by decide) ?_
  refine n_put F w (a := 106) (C := RX9) (T := TX9) (N := 6) (ci := 9) (k := 1) (x := .int 0) (ty := .int) (fs1 := [.int 0, .int 0, .int 0, .int 0, .null, .null]) tyX9 tyX9_ok nmX9 (by decide) (h0) rfl rfl inT9 (by decide) rfl tb_1 rfl (by decide +kernel) rfl rfl (Nat.le_of_ble_eq_true rfl) dX9_init_11 (fun H locs w => ?_)
  rw [up_same (h0)] at w
  refine lv_aload_n hx hb dX9_init_14 rfl (lv_at hl 0 rfl) ?_
  refine lv_iconst (v := 0) hx hb dX9_init_15 (by decide) ?_
  refine n_put F w (a := 106) (C := RX9) (T := TX9) (N := 6) (ci := 9) (k := 2) (x := .int 0) (ty := .int) (fs1 := [.int 0, .int 0, .int 0, .int 0, .null, .null]) tyX9 tyX9_ok nmX9 (by decide) (h0) rfl rfl inT9 (by decide) rfl tb_11 rfl (by decide +kernel) rfl rfl (Nat.le_of_ble_eq_true rfl) dX9_init_16 (fun H locs w => ?_)
  rw [up_same (h0)] at w
  refine lv_aload_n hx hb dX9_init_19 rfl (lv_at hl 0 rfl) ?_
  refine lv_iconst (v := 0) hx hb dX9_init_20 (by decide) ?_
  refine n_put F w (a := 106) (C := RX9) (T := TX9) (N := 6) (ci := 9) (k := 3) (x := .int 0) (ty := .int) (fs1 := [.int 0, .int 0, .int 0, .int 0, .null, .null]) tyX9 tyX9_ok nmX9 (by decide) (h0) rfl rfl inT9 (by decide) rfl tb_12 rfl (by decide +kernel) rfl rfl (Nat.le_of_ble_eq_true rfl) dX9_init_21 (fun H locs w => ?_)
  rw [up_same (h0)] at w
  refine lv_aload_n hx hb dX9_init_24 rfl (lv_at hl 0 rfl) ?_
  refine lv_bipush (v := 12) hx hb dX9_init_25 (by decide) ?_
  refine n_newa F w (atype := .int) (ty := .int) (t := 2) (N := 12) (cA := cy 2) (a0 := (12, .inl (fun _ => 0))) tb_741 rfl (fun _ h => h) rfl (fun _ => rfl) (by decide) (by decide) (Nat.le_of_ble_eq_true rfl) (Nat.le_of_ble_eq_true rfl) (Nat.le_of_ble_eq_true rfl) (c1 := 1) (s1 := 12) (n1 := 108) rfl rfl rfl dX9_init_27 (fun H w => ?_)
  refine n_putF F w (a := 106) (C := RX9) (T := TX9) (N := 6) (ci := 9) (k := 4) (x := .ref (B + 107)) (ty := .array .int) (fs1 := [.int 0, .int 0, .int 0, .int 0, .ref (B + 107), .null]) tyX9 tyX9_ok nmX9 (by decide) ((up_ne (by decide)).trans h0) rfl rfl inT9 (by decide) rfl tb_7 rfl hin rfl (by decide +kernel) rfl rfl (Nat.le_of_ble_eq_true rfl) dX9_init_29 (fun H locs w => ?_)
  refine lv_aload_n hx hb dX9_init_32 rfl (lv_at hl 0 rfl) ?_
  refine lv_bipush (v := 12) hx hb dX9_init_33 (by decide) ?_
  refine n_newa F w (atype := .int) (ty := .int) (t := 2) (N := 12) (cA := cy 2) (a0 := (12, .inl (fun _ => 0))) tb_741 rfl (fun _ h => h) rfl (fun _ => rfl) (by decide) (by decide) (Nat.le_of_ble_eq_true rfl) (Nat.le_of_ble_eq_true rfl) (Nat.le_of_ble_eq_true rfl) (c1 := 2) (s1 := 24) (n1 := 109) rfl rfl rfl dX9_init_35 (fun H w => ?_)
  refine n_putF F w (a := 106) (C := RX9) (T := TX9) (N := 6) (ci := 9) (k := 5) (x := .ref (B + 108)) (ty := .array .int) (fs1 := [.int 0, .int 0, .int 0, .int 0, .ref (B + 107), .ref (B + 108)]) tyX9 tyX9_ok nmX9 (by decide) ((up_ne (by decide)).trans up_at) rfl rfl inT9 (by decide) rfl tb_6 rfl hin rfl (by decide +kernel) rfl rfl (Nat.le_of_ble_eq_true rfl) dX9_init_37 (fun H locs w => ?_)
  exact n_end F w hr hlocks dX9_init_40
theorem dX2_init_50 : decode cX2_init 50 = .ok (.return_, 1) := dq0 kk_177 (by decide +kernel)
set_option maxRecDepth 8000 in
theorem n_X2_init_43 {l : Launch} {D : va_G} {B : Nat} {cy : Nat → ClassId} {E : Nat → va_E} (h0 : E 71 = .inr (2, [.null, .int 0, .int 0])) : Cn l D B cy yX2_init cX2_init 2 2 32 37 372 [.ref (B + 71)] 72 E 109 (va_up (va_up (va_up (va_up (va_up (va_up (va_up (va_up (va_up (va_up (va_up (va_up (va_up (va_up (va_up (va_up (va_up (va_up (va_up (va_up (va_up (va_up (va_up (va_up (va_up (va_up (va_up (va_up (va_up (va_up (va_up (va_up (va_up (va_up (va_up (va_up (va_up (va_up (va_up (va_up (va_up (va_up (va_up (va_up (va_up (va_up (va_up (va_up (va_up (va_up (va_up (va_up (va_up (va_up (va_up (va_up (va_up (va_up (va_up (va_up (va_up (va_up (va_up (va_up (va_up (va_up (va_up (va_up (va_up (va_up (va_up (va_up (va_up (va_up E 72 (.inl (cy 5, 12, .inr (.inr (.inr (.inr (fun _ => none))))))) 71 (.inr (2, [.ref (B + 72), .int 0, .int 0]))) 73 (.inr (9, [.int 0, .int 0, .int 0, .int 0, .null, .null]))) 74 (.inl (cy 2, 12, .inl (fun _ => 0)))) 73 (.inr (9, [.int 0, .int 0, .int 0, .int 0, .ref (B + 74), .null]))) 75 (.inl (cy 2, 12, .inl (fun _ => 0)))) 73 (.inr (9, [.int 0, .int 0, .int 0, .int 0, .ref (B + 74), .ref (B + 75)]))) 72 (.inl (cy 5, 12, .inr (.inr (.inr (.inr (va_up (fun _ => none) 0 (some (B + 73))))))))) 76 (.inr (9, [.int 0, .int 0, .int 0, .int 0, .null, .null]))) 77 (.inl (cy 2, 12, .inl (fun _ => 0)))) 76 (.inr (9, [.int 0, .int 0, .int 0, .int 0, .ref (B + 77), .null]))) 78 (.inl (cy 2, 12, .inl (fun _ => 0)))) 76 (.inr (9, [.int 0, .int 0, .int 0, .int 0, .ref (B + 77), .ref (B + 78)]))) 72 (.inl (cy 5, 12, .inr (.inr (.inr (.inr (va_up (va_up (fun _ => none) 0 (some (B + 73))) 1 (some (B + 76))))))))) 79 (.inr (9, [.int 0, .int 0, .int 0, .int 0, .null, .null]))) 80 (.inl (cy 2, 12, .inl (fun _ => 0)))) 79 (.inr (9, [.int 0, .int 0, .int 0, .int 0, .ref (B + 80), .null]))) 81 (.inl (cy 2, 12, .inl (fun _ => 0)))) 79 (.inr (9, [.int 0, .int 0, .int 0, .int 0, .ref (B + 80), .ref (B + 81)]))) 72 (.inl (cy 5, 12, .inr (.inr (.inr (.inr (va_up (va_up (va_up (fun _ => none) 0 (some (B + 73))) 1 (some (B + 76))) 2 (some (B + 79))))))))) 82 (.inr (9, [.int 0, .int 0, .int 0, .int 0, .null, .null]))) 83 (.inl (cy 2, 12, .inl (fun _ => 0)))) 82 (.inr (9, [.int 0, .int 0, .int 0, .int 0, .ref (B + 83), .null]))) 84 (.inl (cy 2, 12, .inl (fun _ => 0)))) 82 (.inr (9, [.int 0, .int 0, .int 0, .int 0, .ref (B + 83), .ref (B + 84)]))) 72 (.inl (cy 5, 12, .inr (.inr (.inr (.inr (va_up (va_up (va_up (va_up (fun _ => none) 0 (some (B + 73))) 1 (some (B + 76))) 2 (some (B + 79))) 3 (some (B + 82))))))))) 85 (.inr (9, [.int 0, .int 0, .int 0, .int 0, .null, .null]))) 86 (.inl (cy 2, 12, .inl (fun _ => 0)))) 85 (.inr (9, [.int 0, .int 0, .int 0, .int 0, .ref (B + 86), .null]))) 87 (.inl (cy 2, 12, .inl (fun _ => 0)))) 85 (.inr (9, [.int 0, .int 0, .int 0, .int 0, .ref (B + 86), .ref (B + 87)]))) 72 (.inl (cy 5, 12, .inr (.inr (.inr (.inr (va_up (va_up (va_up (va_up (va_up (fun _ => none) 0 (some (B + 73))) 1 (some (B + 76))) 2 (some (B + 79))) 3 (some (B + 82))) 4 (some (B + 85))))))))) 88 (.inr (9, [.int 0, .int 0, .int 0, .int 0, .null, .null]))) 89 (.inl (cy 2, 12, .inl (fun _ => 0)))) 88 (.inr (9, [.int 0, .int 0, .int 0, .int 0, .ref (B + 89), .null]))) 90 (.inl (cy 2, 12, .inl (fun _ => 0)))) 88 (.inr (9, [.int 0, .int 0, .int 0, .int 0, .ref (B + 89), .ref (B + 90)]))) 72 (.inl (cy 5, 12, .inr (.inr (.inr (.inr (va_up (va_up (va_up (va_up (va_up (va_up (fun _ => none) 0 (some (B + 73))) 1 (some (B + 76))) 2 (some (B + 79))) 3 (some (B + 82))) 4 (some (B + 85))) 5 (some (B + 88))))))))) 91 (.inr (9, [.int 0, .int 0, .int 0, .int 0, .null, .null]))) 92 (.inl (cy 2, 12, .inl (fun _ => 0)))) 91 (.inr (9, [.int 0, .int 0, .int 0, .int 0, .ref (B + 92), .null]))) 93 (.inl (cy 2, 12, .inl (fun _ => 0)))) 91 (.inr (9, [.int 0, .int 0, .int 0, .int 0, .ref (B + 92), .ref (B + 93)]))) 72 (.inl (cy 5, 12, .inr (.inr (.inr (.inr (va_up (va_up (va_up (va_up (va_up (va_up (va_up (fun _ => none) 0 (some (B + 73))) 1 (some (B + 76))) 2 (some (B + 79))) 3 (some (B + 82))) 4 (some (B + 85))) 5 (some (B + 88))) 6 (some (B + 91))))))))) 94 (.inr (9, [.int 0, .int 0, .int 0, .int 0, .null, .null]))) 95 (.inl (cy 2, 12, .inl (fun _ => 0)))) 94 (.inr (9, [.int 0, .int 0, .int 0, .int 0, .ref (B + 95), .null]))) 96 (.inl (cy 2, 12, .inl (fun _ => 0)))) 94 (.inr (9, [.int 0, .int 0, .int 0, .int 0, .ref (B + 95), .ref (B + 96)]))) 72 (.inl (cy 5, 12, .inr (.inr (.inr (.inr (va_up (va_up (va_up (va_up (va_up (va_up (va_up (va_up (fun _ => none) 0 (some (B + 73))) 1 (some (B + 76))) 2 (some (B + 79))) 3 (some (B + 82))) 4 (some (B + 85))) 5 (some (B + 88))) 6 (some (B + 91))) 7 (some (B + 94))))))))) 97 (.inr (9, [.int 0, .int 0, .int 0, .int 0, .null, .null]))) 98 (.inl (cy 2, 12, .inl (fun _ => 0)))) 97 (.inr (9, [.int 0, .int 0, .int 0, .int 0, .ref (B + 98), .null]))) 99 (.inl (cy 2, 12, .inl (fun _ => 0)))) 97 (.inr (9, [.int 0, .int 0, .int 0, .int 0, .ref (B + 98), .ref (B + 99)]))) 72 (.inl (cy 5, 12, .inr (.inr (.inr (.inr (va_up (va_up (va_up (va_up (va_up (va_up (va_up (va_up (va_up (fun _ => none) 0 (some (B + 73))) 1 (some (B + 76))) 2 (some (B + 79))) 3 (some (B + 82))) 4 (some (B + 85))) 5 (some (B + 88))) 6 (some (B + 91))) 7 (some (B + 94))) 8 (some (B + 97))))))))) 100 (.inr (9, [.int 0, .int 0, .int 0, .int 0, .null, .null]))) 101 (.inl (cy 2, 12, .inl (fun _ => 0)))) 100 (.inr (9, [.int 0, .int 0, .int 0, .int 0, .ref (B + 101), .null]))) 102 (.inl (cy 2, 12, .inl (fun _ => 0)))) 100 (.inr (9, [.int 0, .int 0, .int 0, .int 0, .ref (B + 101), .ref (B + 102)]))) 72 (.inl (cy 5, 12, .inr (.inr (.inr (.inr (va_up (va_up (va_up (va_up (va_up (va_up (va_up (va_up (va_up (va_up (fun _ => none) 0 (some (B + 73))) 1 (some (B + 76))) 2 (some (B + 79))) 3 (some (B + 82))) 4 (some (B + 85))) 5 (some (B + 88))) 6 (some (B + 91))) 7 (some (B + 94))) 8 (some (B + 97))) 9 (some (B + 100))))))))) 103 (.inr (9, [.int 0, .int 0, .int 0, .int 0, .null, .null]))) 104 (.inl (cy 2, 12, .inl (fun _ => 0)))) 103 (.inr (9, [.int 0, .int 0, .int 0, .int 0, .ref (B + 104), .null]))) 105 (.inl (cy 2, 12, .inl (fun _ => 0)))) 103 (.inr (9, [.int 0, .int 0, .int 0, .int 0, .ref (B + 104), .ref (B + 105)]))) 72 (.inl (cy 5, 12, .inr (.inr (.inr (.inr (va_up (va_up (va_up (va_up (va_up (va_up (va_up (va_up (va_up (va_up (va_up (fun _ => none) 0 (some (B + 73))) 1 (some (B + 76))) 2 (some (B + 79))) 3 (some (B + 82))) 4 (some (B + 85))) 5 (some (B + 88))) 6 (some (B + 91))) 7 (some (B + 94))) 8 (some (B + 97))) 9 (some (B + 100))) 10 (some (B + 103))))))))) 106 (.inr (9, [.int 0, .int 0, .int 0, .int 0, .null, .null]))) 107 (.inl (cy 2, 12, .inl (fun _ => 0)))) 106 (.inr (9, [.int 0, .int 0, .int 0, .int 0, .ref (B + 107), .null]))) 108 (.inl (cy 2, 12, .inl (fun _ => 0)))) 106 (.inr (9, [.int 0, .int 0, .int 0, .int 0, .ref (B + 107), .ref (B + 108)]))) 72 (.inl (cy 5, 12, .inr (.inr (.inr (.inr (va_up (va_up (va_up (va_up (va_up (va_up (va_up (va_up (va_up (va_up (va_up (va_up (fun _ => none) 0 (some (B + 73))) 1 (some (B + 76))) 2 (some (B + 79))) 3 (some (B + 82))) 4 (some (B + 85))) 5 (some (B + 88))) 6 (some (B + 91))) 7 (some (B + 94))) 8 (some (B + 97))) 9 (some (B + 100))) 10 (some (B + 103))) 11 (some (B + 106))))))))) := by
  refine n_start (by decide) (Nat.le_of_ble_eq_true rfl) rfl ?_
  intro p e s m below meth c ls F hr hlocks hin w hl
  have F : CallFix p m c cX2_init 2 s _ TB RX2 := F
  have hx := F.1
  have hb := F.2.1
  have hl : lv_has ls 2 [(0, .ref (B + 71))] := hl
  refine lv_aload_n hx hb dX2_init_0 rfl (lv_at hl 0 rfl) ?_
  refine n_obj F hl.1 tb_762 tb_723 tk_obj dX2_init_1 (Nat.le_of_ble_eq_true rfl) (Nat.le_of_ble_eq_true rfl) ?_
  refine lv_aload_n hx hb dX2_init_4 rfl (lv_at hl 0 rfl) ?_
  refine lv_bipush (v := 12) hx hb dX2_init_5 (by decide) ?_
  refine n_newq F w (t := 5) (N := 12) (cA := cy 5) (C := "ToneLines$Word") w.2.2.2.2.2.1.2 tb_763 rfl (by decide) (by decide) (Nat.le_of_ble_eq_true rfl) (Nat.le_of_ble_eq_true rfl) (Nat.le_of_ble_eq_true rfl) (c1 := 1) (s1 := 12) (n1 := 73) rfl rfl rfl dX2_init_7 (fun H w => ?_)
  refine n_putF F w (a := 71) (C := RX2) (T := TX2) (N := 3) (ci := 2) (k := 0) (x := .ref (B + 72)) (ty := .array (.object "ToneLines$Word")) (fs1 := [.ref (B + 72), .int 0, .int 0]) tyX2 tyX2_ok nmX2 (by decide) ((up_ne (by decide)).trans h0) rfl rfl inT2 (by decide) rfl tb_202 rfl hin rfl (by decide +kernel) rfl rfl (Nat.le_of_ble_eq_true rfl) dX2_init_10 (fun H locs w => ?_)
  refine lv_aload_n hx hb dX2_init_13 rfl (lv_at hl 0 rfl) ?_
  refine lv_iconst (v := 0) hx hb dX2_init_14 (by decide) ?_
  refine n_put F w (a := 71) (C := RX2) (T := TX2) (N := 3) (ci := 2) (k := 1) (x := .int 0) (ty := .int) (fs1 := [.ref (B + 72), .int 0, .int 0]) tyX2 tyX2_ok nmX2 (by decide) (up_at) rfl rfl inT2 (by decide) rfl tb_203 rfl (by decide +kernel) rfl rfl (Nat.le_of_ble_eq_true rfl) dX2_init_15 (fun H locs w => ?_)
  rw [up_same (up_at)] at w
  refine lv_aload_n hx hb dX2_init_18 rfl (lv_at hl 0 rfl) ?_
  refine lv_iconst (v := 0) hx hb dX2_init_19 (by decide) ?_
  refine n_put F w (a := 71) (C := RX2) (T := TX2) (N := 3) (ci := 2) (k := 2) (x := .int 0) (ty := .int) (fs1 := [.ref (B + 72), .int 0, .int 0]) tyX2 tyX2_ok nmX2 (by decide) (up_at) rfl rfl inT2 (by decide) rfl tb_205 rfl (by decide +kernel) rfl rfl (Nat.le_of_ble_eq_true rfl) dX2_init_20 (fun H locs w => ?_)
  rw [up_same (up_at)] at w
  refine lv_iconst (v := 0) hx hb dX2_init_23 (by decide) ?_
  refine lv_istore_n (lv' := [(1, .int 0), (0, .ref (B + 71))]) hx hb dX2_init_24 rfl hl (by decide) rfl (fun ls hl => ?_)
  refine lv_iload_n hx hb dX2_init_25 rfl (lv_at hl 0 rfl) ?_
  refine lv_bipush (v := 12) hx hb dX2_init_26 (by decide) ?_
  refine lv_icmp_ge (tgt := 50) hx hb dX2_init_28 (by decide) (fun c1 => absurd c1 (by decide)) (fun _ => ?_)
  refine lv_aload_n hx hb dX2_init_31 rfl (lv_at hl 1 rfl) ?_
  refine n_get F w (a := 71) (C := RX2) (T := TX2) (N := 3) (ci := 2) (k := 0) (by decide) (up_at) rfl inT2 (by decide) rfl tb_202 rfl dX2_init_32 ?_
  refine lv_iload_n hx hb dX2_init_35 rfl (lv_at hl 0 rfl) ?_
  refine n_new F w (C := RX9) (T := TX9) (N := 6) (ci := 9) (fs := [.int 0, .int 0, .int 0, .int 0, .null, .null]) tyX9 tyX9_ok inT9 tb_763 tb_754 tb_5 rfl nf_9 (Nat.le_of_ble_eq_true rfl) (Nat.le_of_ble_eq_true rfl) (c1 := 2) (s1 := 18) (n1 := 74) rfl rfl rfl dX2_init_36 (fun H w => ?_)
  refine lv_dup hx hb dX2_init_39 rfl ?_
  refine n_callN F w (b := 73) (As := []) (rest := [.ref (B + 73), .int 0, .ref (B + 72)]) (n_X9_init_31 (up_at)) gc_X9_init rfl tb_5 (by decide) tb_756 hs_X9_init ⟨(Nat.le_of_ble_eq_true rfl), (Nat.le_of_ble_eq_true rfl)⟩ hl.1 rfl (Nat.le_of_ble_eq_true rfl) ⟨(Nat.le_of_ble_eq_true rfl), (Nat.le_of_ble_eq_true rfl)⟩ (k1 := 4) (k2 := 42) rfl rfl dX2_init_40 (fun H locs w => ?_)
  refine n_ast F w (a := 72) (v := 73) (j := 0) (t := 5) (ci := 9) (by decide) (by decide) ((up_ne (by decide)).trans ((up_ne (by decide)).trans ((up_ne (by decide)).trans ((up_ne (by decide)).trans ((up_ne (by decide)).trans ((up_ne (by decide)).trans up_at)))))) rfl (up_at) rfl ⟨by decide, by decide⟩ (by decide) dX2_init_43 (fun H locs w => ?_)
  refine lv_iinc (v := 1) (lv' := [(1, .int 1), (0, .ref (B + 71))]) hx hb dX2_init_44 hl (k := 0) rfl (by decide) (by decide) rfl (fun ls hl => ?_)
  refine lv_goto (tgt := 25) hx hb dX2_init_47 (by decide) ?_
  refine lv_iload_n hx hb dX2_init_25 rfl (lv_at hl 0 rfl) ?_
  refine lv_bipush (v := 12) hx hb dX2_init_26 (by decide) ?_
  refine lv_icmp_ge (tgt := 50) hx hb dX2_init_28 (by decide) (fun c1 => absurd c1 (by decide)) (fun _ => ?_)
  refine lv_aload_n hx hb dX2_init_31 rfl (lv_at hl 1 rfl) ?_
  refine n_get F w (a := 71) (C := RX2) (T := TX2) (N := 3) (ci := 2) (k := 0) (by decide) ((up_ne (by decide)).trans ((up_ne (by decide)).trans ((up_ne (by decide)).trans ((up_ne (by decide)).trans ((up_ne (by decide)).trans ((up_ne (by decide)).trans up_at)))))) rfl inT2 (by decide) rfl tb_202 rfl dX2_init_32 ?_
  refine lv_iload_n hx hb dX2_init_35 rfl (lv_at hl 0 rfl) ?_
  refine n_new F w (C := RX9) (T := TX9) (N := 6) (ci := 9) (fs := [.int 0, .int 0, .int 0, .int 0, .null, .null]) tyX9 tyX9_ok inT9 tb_763 tb_754 tb_5 rfl nf_9 (Nat.le_of_ble_eq_true rfl) (Nat.le_of_ble_eq_true rfl) (c1 := 5) (s1 := 48) (n1 := 77) rfl rfl rfl dX2_init_36 (fun H w => ?_)
  refine lv_dup hx hb dX2_init_39 rfl ?_
  refine n_callN F w (b := 76) (As := []) (rest := [.ref (B + 76), .int 1, .ref (B + 72)]) (n_X9_init_32 (up_at)) gc_X9_init rfl tb_5 (by decide) tb_756 hs_X9_init ⟨(Nat.le_of_ble_eq_true rfl), (Nat.le_of_ble_eq_true rfl)⟩ hl.1 rfl (Nat.le_of_ble_eq_true rfl) ⟨(Nat.le_of_ble_eq_true rfl), (Nat.le_of_ble_eq_true rfl)⟩ (k1 := 7) (k2 := 72) rfl rfl dX2_init_40 (fun H locs w => ?_)
  refine n_ast F w (a := 72) (v := 76) (j := 1) (t := 5) (ci := 9) (by decide) (by decide) ((up_ne (by decide)).trans ((up_ne (by decide)).trans ((up_ne (by decide)).trans ((up_ne (by decide)).trans ((up_ne (by decide)).trans up_at))))) rfl (up_at) rfl ⟨by decide, by decide⟩ (by decide) dX2_init_43 (fun H locs w => ?_)
  refine lv_iinc (v := 2) (lv' := [(1, .int 2), (0, .ref (B + 71))]) hx hb dX2_init_44 hl (k := 0) rfl (by decide) (by decide) rfl (fun ls hl => ?_)
  refine lv_goto (tgt := 25) hx hb dX2_init_47 (by decide) ?_
  refine lv_iload_n hx hb dX2_init_25 rfl (lv_at hl 0 rfl) ?_
  refine lv_bipush (v := 12) hx hb dX2_init_26 (by decide) ?_
  refine lv_icmp_ge (tgt := 50) hx hb dX2_init_28 (by decide) (fun c1 => absurd c1 (by decide)) (fun _ => ?_)
  refine lv_aload_n hx hb dX2_init_31 rfl (lv_at hl 1 rfl) ?_
  refine n_get F w (a := 71) (C := RX2) (T := TX2) (N := 3) (ci := 2) (k := 0) (by decide) ((up_ne (by decide)).trans ((up_ne (by decide)).trans ((up_ne (by decide)).trans ((up_ne (by decide)).trans ((up_ne (by decide)).trans ((up_ne (by decide)).trans ((up_ne (by decide)).trans ((up_ne (by decide)).trans ((up_ne (by decide)).trans ((up_ne (by decide)).trans ((up_ne (by decide)).trans ((up_ne (by decide)).trans up_at)))))))))))) rfl inT2 (by decide) rfl tb_202 rfl dX2_init_32 ?_
  refine lv_iload_n hx hb dX2_init_35 rfl (lv_at hl 0 rfl) ?_
  refine n_new F w (C := RX9) (T := TX9) (N := 6) (ci := 9) (fs := [.int 0, .int 0, .int 0, .int 0, .null, .null]) tyX9 tyX9_ok inT9 tb_763 tb_754 tb_5 rfl nf_9 (Nat.le_of_ble_eq_true rfl) (Nat.le_of_ble_eq_true rfl) (c1 := 8) (s1 := 78) (n1 := 80) rfl rfl rfl dX2_init_36 (fun H w => ?_)
  refine lv_dup hx hb dX2_init_39 rfl ?_
  refine n_callN F w (b := 79) (As := []) (rest := [.ref (B + 79), .int 2, .ref (B + 72)]) (n_X9_init_33 (up_at)) gc_X9_init rfl tb_5 (by decide) tb_756 hs_X9_init ⟨(Nat.le_of_ble_eq_true rfl), (Nat.le_of_ble_eq_true rfl)⟩ hl.1 rfl (Nat.le_of_ble_eq_true rfl) ⟨(Nat.le_of_ble_eq_true rfl), (Nat.le_of_ble_eq_true rfl)⟩ (k1 := 10) (k2 := 102) rfl rfl dX2_init_40 (fun H locs w => ?_)
  refine n_ast F w (a := 72) (v := 79) (j := 2) (t := 5) (ci := 9) (by decide) (by decide) ((up_ne (by decide)).trans ((up_ne (by decide)).trans ((up_ne (by decide)).trans ((up_ne (by decide)).trans ((up_ne (by decide)).trans up_at))))) rfl (up_at) rfl ⟨by decide, by decide⟩ (by decide) dX2_init_43 (fun H locs w => ?_)
  refine lv_iinc (v := 3) (lv' := [(1, .int 3), (0, .ref (B + 71))]) hx hb dX2_init_44 hl (k := 0) rfl (by decide) (by decide) rfl (fun ls hl => ?_)
  refine lv_goto (tgt := 25) hx hb dX2_init_47 (by decide) ?_
  refine lv_iload_n hx hb dX2_init_25 rfl (lv_at hl 0 rfl) ?_
  refine lv_bipush (v := 12) hx hb dX2_init_26 (by decide) ?_
  refine lv_icmp_ge (tgt := 50) hx hb dX2_init_28 (by decide) (fun c1 => absurd c1 (by decide)) (fun _ => ?_)
  refine lv_aload_n hx hb dX2_init_31 rfl (lv_at hl 1 rfl) ?_
  refine n_get F w (a := 71) (C := RX2) (T := TX2) (N := 3) (ci := 2) (k := 0) (by decide) ((up_ne (by decide)).trans ((up_ne (by decide)).trans ((up_ne (by decide)).trans ((up_ne (by decide)).trans ((up_ne (by decide)).trans ((up_ne (by decide)).trans ((up_ne (by decide)).trans ((up_ne (by decide)).trans ((up_ne (by decide)).trans ((up_ne (by decide)).trans ((up_ne (by decide)).trans ((up_ne (by decide)).trans ((up_ne (by decide)).trans ((up_ne (by decide)).trans ((up_ne (by decide)).trans ((up_ne (by decide)).trans ((up_ne (by decide)).trans ((up_ne (by decide)).trans up_at)))))))))))))))))) rfl inT2 (by decide) rfl tb_202 rfl dX2_init_32 ?_
  refine lv_iload_n hx hb dX2_init_35 rfl (lv_at hl 0 rfl) ?_
  refine n_new F w (C := RX9) (T := TX9) (N := 6) (ci := 9) (fs := [.int 0, .int 0, .int 0, .int 0, .null, .null]) tyX9 tyX9_ok inT9 tb_763 tb_754 tb_5 rfl nf_9 (Nat.le_of_ble_eq_true rfl) (Nat.le_of_ble_eq_true rfl) (c1 := 11) (s1 := 108) (n1 := 83) rfl rfl rfl dX2_init_36 (fun H w => ?_)
  refine lv_dup hx hb dX2_init_39 rfl ?_
  refine n_callN F w (b := 82) (As := []) (rest := [.ref (B + 82), .int 3, .ref (B + 72)]) (n_X9_init_34 (up_at)) gc_X9_init rfl tb_5 (by decide) tb_756 hs_X9_init ⟨(Nat.le_of_ble_eq_true rfl), (Nat.le_of_ble_eq_true rfl)⟩ hl.1 rfl (Nat.le_of_ble_eq_true rfl) ⟨(Nat.le_of_ble_eq_true rfl), (Nat.le_of_ble_eq_true rfl)⟩ (k1 := 13) (k2 := 132) rfl rfl dX2_init_40 (fun H locs w => ?_)
  refine n_ast F w (a := 72) (v := 82) (j := 3) (t := 5) (ci := 9) (by decide) (by decide) ((up_ne (by decide)).trans ((up_ne (by decide)).trans ((up_ne (by decide)).trans ((up_ne (by decide)).trans ((up_ne (by decide)).trans up_at))))) rfl (up_at) rfl ⟨by decide, by decide⟩ (by decide) dX2_init_43 (fun H locs w => ?_)
  refine lv_iinc (v := 4) (lv' := [(1, .int 4), (0, .ref (B + 71))]) hx hb dX2_init_44 hl (k := 0) rfl (by decide) (by decide) rfl (fun ls hl => ?_)
  refine lv_goto (tgt := 25) hx hb dX2_init_47 (by decide) ?_
  refine lv_iload_n hx hb dX2_init_25 rfl (lv_at hl 0 rfl) ?_
  refine lv_bipush (v := 12) hx hb dX2_init_26 (by decide) ?_
  refine lv_icmp_ge (tgt := 50) hx hb dX2_init_28 (by decide) (fun c1 => absurd c1 (by decide)) (fun _ => ?_)
  refine lv_aload_n hx hb dX2_init_31 rfl (lv_at hl 1 rfl) ?_
  refine n_get F w (a := 71) (C := RX2) (T := TX2) (N := 3) (ci := 2) (k := 0) (by decide) ((up_ne (by decide)).trans ((up_ne (by decide)).trans ((up_ne (by decide)).trans ((up_ne (by decide)).trans ((up_ne (by decide)).trans ((up_ne (by decide)).trans ((up_ne (by decide)).trans ((up_ne (by decide)).trans ((up_ne (by decide)).trans ((up_ne (by decide)).trans ((up_ne (by decide)).trans ((up_ne (by decide)).trans ((up_ne (by decide)).trans ((up_ne (by decide)).trans ((up_ne (by decide)).trans ((up_ne (by decide)).trans ((up_ne (by decide)).trans ((up_ne (by decide)).trans ((up_ne (by decide)).trans ((up_ne (by decide)).trans ((up_ne (by decide)).trans ((up_ne (by decide)).trans ((up_ne (by decide)).trans ((up_ne (by decide)).trans up_at)))))))))))))))))))))))) rfl inT2 (by decide) rfl tb_202 rfl dX2_init_32 ?_
  refine lv_iload_n hx hb dX2_init_35 rfl (lv_at hl 0 rfl) ?_
  refine n_new F w (C := RX9) (T := TX9) (N := 6) (ci := 9) (fs := [.int 0, .int 0, .int 0, .int 0, .null, .null]) tyX9 tyX9_ok inT9 tb_763 tb_754 tb_5 rfl nf_9 (Nat.le_of_ble_eq_true rfl) (Nat.le_of_ble_eq_true rfl) (c1 := 14) (s1 := 138) (n1 := 86) rfl rfl rfl dX2_init_36 (fun H w => ?_)
  refine lv_dup hx hb dX2_init_39 rfl ?_
  refine n_callN F w (b := 85) (As := []) (rest := [.ref (B + 85), .int 4, .ref (B + 72)]) (n_X9_init_35 (up_at)) gc_X9_init rfl tb_5 (by decide) tb_756 hs_X9_init ⟨(Nat.le_of_ble_eq_true rfl), (Nat.le_of_ble_eq_true rfl)⟩ hl.1 rfl (Nat.le_of_ble_eq_true rfl) ⟨(Nat.le_of_ble_eq_true rfl), (Nat.le_of_ble_eq_true rfl)⟩ (k1 := 16) (k2 := 162) rfl rfl dX2_init_40 (fun H locs w => ?_)
  refine n_ast F w (a := 72) (v := 85) (j := 4) (t := 5) (ci := 9) (by decide) (by decide) ((up_ne (by decide)).trans ((up_ne (by decide)).trans ((up_ne (by decide)).trans ((up_ne (by decide)).trans ((up_ne (by decide)).trans up_at))))) rfl (up_at) rfl ⟨by decide, by decide⟩ (by decide) dX2_init_43 (fun H locs w => ?_)
  refine lv_iinc (v := 5) (lv' := [(1, .int 5), (0, .ref (B + 71))]) hx hb dX2_init_44 hl (k := 0) rfl (by decide) (by decide) rfl (fun ls hl => ?_)
  refine lv_goto (tgt := 25) hx hb dX2_init_47 (by decide) ?_
  refine lv_iload_n hx hb dX2_init_25 rfl (lv_at hl 0 rfl) ?_
  refine lv_bipush (v := 12) hx hb dX2_init_26 (by decide) ?_
  refine lv_icmp_ge (tgt := 50) hx hb dX2_init_28 (by decide) (fun c1 => absurd c1 (by decide)) (fun _ => ?_)
  refine lv_aload_n hx hb dX2_init_31 rfl (lv_at hl 1 rfl) ?_
  refine n_get F w (a := 71) (C := RX2) (T := TX2) (N := 3) (ci := 2) (k := 0) (by decide) ((up_ne (by decide)).trans ((up_ne (by decide)).trans ((up_ne (by decide)).trans ((up_ne (by decide)).trans ((up_ne (by decide)).trans ((up_ne (by decide)).trans ((up_ne (by decide)).trans ((up_ne (by decide)).trans ((up_ne (by decide)).trans ((up_ne (by decide)).trans ((up_ne (by decide)).trans ((up_ne (by decide)).trans ((up_ne (by decide)).trans ((up_ne (by decide)).trans ((up_ne (by decide)).trans ((up_ne (by decide)).trans ((up_ne (by decide)).trans ((up_ne (by decide)).trans ((up_ne (by decide)).trans ((up_ne (by decide)).trans ((up_ne (by decide)).trans ((up_ne (by decide)).trans ((up_ne (by decide)).trans ((up_ne (by decide)).trans ((up_ne (by decide)).trans ((up_ne (by decide)).trans ((up_ne (by decide)).trans ((up_ne (by decide)).trans ((up_ne (by decide)).trans ((up_ne (by decide)).trans up_at)))))))))))))))))))))))))))))) rfl inT2 (by decide) rfl tb_202 rfl dX2_init_32 ?_
  refine lv_iload_n hx hb dX2_init_35 rfl (lv_at hl 0 rfl) ?_
  refine n_new F w (C := RX9) (T := TX9) (N := 6) (ci := 9) (fs := [.int 0, .int 0, .int 0, .int 0, .null, .null]) tyX9 tyX9_ok inT9 tb_763 tb_754 tb_5 rfl nf_9 (Nat.le_of_ble_eq_true rfl) (Nat.le_of_ble_eq_true rfl) (c1 := 17) (s1 := 168) (n1 := 89) rfl rfl rfl dX2_init_36 (fun H w => ?_)
  refine lv_dup hx hb dX2_init_39 rfl ?_
  refine n_callN F w (b := 88) (As := []) (rest := [.ref (B + 88), .int 5, .ref (B + 72)]) (n_X9_init_36 (up_at)) gc_X9_init rfl tb_5 (by decide) tb_756 hs_X9_init ⟨(Nat.le_of_ble_eq_true rfl), (Nat.le_of_ble_eq_true rfl)⟩ hl.1 rfl (Nat.le_of_ble_eq_true rfl) ⟨(Nat.le_of_ble_eq_true rfl), (Nat.le_of_ble_eq_true rfl)⟩ (k1 := 19) (k2 := 192) rfl rfl dX2_init_40 (fun H locs w => ?_)
  refine n_ast F w (a := 72) (v := 88) (j := 5) (t := 5) (ci := 9) (by decide) (by decide) ((up_ne (by decide)).trans ((up_ne (by decide)).trans ((up_ne (by decide)).trans ((up_ne (by decide)).trans ((up_ne (by decide)).trans up_at))))) rfl (up_at) rfl ⟨by decide, by decide⟩ (by decide) dX2_init_43 (fun H locs w => ?_)
  refine lv_iinc (v := 6) (lv' := [(1, .int 6), (0, .ref (B + 71))]) hx hb dX2_init_44 hl (k := 0) rfl (by decide) (by decide) rfl (fun ls hl => ?_)
  refine lv_goto (tgt := 25) hx hb dX2_init_47 (by decide) ?_
  refine lv_iload_n hx hb dX2_init_25 rfl (lv_at hl 0 rfl) ?_
  refine lv_bipush (v := 12) hx hb dX2_init_26 (by decide) ?_
  refine lv_icmp_ge (tgt := 50) hx hb dX2_init_28 (by decide) (fun c1 => absurd c1 (by decide)) (fun _ => ?_)
  refine lv_aload_n hx hb dX2_init_31 rfl (lv_at hl 1 rfl) ?_
  refine n_get F w (a := 71) (C := RX2) (T := TX2) (N := 3) (ci := 2) (k := 0) (by decide) ((up_ne (by decide)).trans ((up_ne (by decide)).trans ((up_ne (by decide)).trans ((up_ne (by decide)).trans ((up_ne (by decide)).trans ((up_ne (by decide)).trans ((up_ne (by decide)).trans ((up_ne (by decide)).trans ((up_ne (by decide)).trans ((up_ne (by decide)).trans ((up_ne (by decide)).trans ((up_ne (by decide)).trans ((up_ne (by decide)).trans ((up_ne (by decide)).trans ((up_ne (by decide)).trans ((up_ne (by decide)).trans ((up_ne (by decide)).trans ((up_ne (by decide)).trans ((up_ne (by decide)).trans ((up_ne (by decide)).trans ((up_ne (by decide)).trans ((up_ne (by decide)).trans ((up_ne (by decide)).trans ((up_ne (by decide)).trans ((up_ne (by decide)).trans ((up_ne (by decide)).trans ((up_ne (by decide)).trans ((up_ne (by decide)).trans ((up_ne (by decide)).trans ((up_ne (by decide)).trans ((up_ne (by decide)).trans ((up_ne (by decide)).trans ((up_ne (by decide)).trans ((up_ne (by decide)).trans ((up_ne (by decide)).trans ((up_ne (by decide)).trans up_at)))))))))))))))))))))))))))))))))))) rfl inT2 (by decide) rfl tb_202 rfl dX2_init_32 ?_
  refine lv_iload_n hx hb dX2_init_35 rfl (lv_at hl 0 rfl) ?_
  refine n_new F w (C := RX9) (T := TX9) (N := 6) (ci := 9) (fs := [.int 0, .int 0, .int 0, .int 0, .null, .null]) tyX9 tyX9_ok inT9 tb_763 tb_754 tb_5 rfl nf_9 (Nat.le_of_ble_eq_true rfl) (Nat.le_of_ble_eq_true rfl) (c1 := 20) (s1 := 198) (n1 := 92) rfl rfl rfl dX2_init_36 (fun H w => ?_)
  refine lv_dup hx hb dX2_init_39 rfl ?_
  refine n_callN F w (b := 91) (As := []) (rest := [.ref (B + 91), .int 6, .ref (B + 72)]) (n_X9_init_37 (up_at)) gc_X9_init rfl tb_5 (by decide) tb_756 hs_X9_init ⟨(Nat.le_of_ble_eq_true rfl), (Nat.le_of_ble_eq_true rfl)⟩ hl.1 rfl (Nat.le_of_ble_eq_true rfl) ⟨(Nat.le_of_ble_eq_true rfl), (Nat.le_of_ble_eq_true rfl)⟩ (k1 := 22) (k2 := 222) rfl rfl dX2_init_40 (fun H locs w => ?_)
  refine n_ast F w (a := 72) (v := 91) (j := 6) (t := 5) (ci := 9) (by decide) (by decide) ((up_ne (by decide)).trans ((up_ne (by decide)).trans ((up_ne (by decide)).trans ((up_ne (by decide)).trans ((up_ne (by decide)).trans up_at))))) rfl (up_at) rfl ⟨by decide, by decide⟩ (by decide) dX2_init_43 (fun H locs w => ?_)
  refine lv_iinc (v := 7) (lv' := [(1, .int 7), (0, .ref (B + 71))]) hx hb dX2_init_44 hl (k := 0) rfl (by decide) (by decide) rfl (fun ls hl => ?_)
  refine lv_goto (tgt := 25) hx hb dX2_init_47 (by decide) ?_
  refine lv_iload_n hx hb dX2_init_25 rfl (lv_at hl 0 rfl) ?_
  refine lv_bipush (v := 12) hx hb dX2_init_26 (by decide) ?_
  refine lv_icmp_ge (tgt := 50) hx hb dX2_init_28 (by decide) (fun c1 => absurd c1 (by decide)) (fun _ => ?_)
  refine lv_aload_n hx hb dX2_init_31 rfl (lv_at hl 1 rfl) ?_
  refine n_get F w (a := 71) (C := RX2) (T := TX2) (N := 3) (ci := 2) (k := 0) (by decide) ((up_ne (by decide)).trans ((up_ne (by decide)).trans ((up_ne (by decide)).trans ((up_ne (by decide)).trans ((up_ne (by decide)).trans ((up_ne (by decide)).trans ((up_ne (by decide)).trans ((up_ne (by decide)).trans ((up_ne (by decide)).trans ((up_ne (by decide)).trans ((up_ne (by decide)).trans ((up_ne (by decide)).trans ((up_ne (by decide)).trans ((up_ne (by decide)).trans ((up_ne (by decide)).trans ((up_ne (by decide)).trans ((up_ne (by decide)).trans ((up_ne (by decide)).trans ((up_ne (by decide)).trans ((up_ne (by decide)).trans ((up_ne (by decide)).trans ((up_ne (by decide)).trans ((up_ne (by decide)).trans ((up_ne (by decide)).trans ((up_ne (by decide)).trans ((up_ne (by decide)).trans ((up_ne (by decide)).trans ((up_ne (by decide)).trans ((up_ne (by decide)).trans ((up_ne (by decide)).trans ((up_ne (by decide)).trans ((up_ne (by decide)).trans ((up_ne (by decide)).trans ((up_ne (by decide)).trans ((up_ne (by decide)).trans ((up_ne (by decide)).trans ((up_ne (by decide)).trans ((up_ne (by decide)).trans ((up_ne (by decide)).trans ((up_ne (by decide)).trans ((up_ne (by decide)).trans ((up_ne (by decide)).trans up_at)))))))))))))))))))))))))))))))))))))))))) rfl inT2 (by decide) rfl tb_202 rfl dX2_init_32 ?_
  refine lv_iload_n hx hb dX2_init_35 rfl (lv_at hl 0 rfl) ?_
  refine n_new F w (C := RX9) (T := TX9) (N := 6) (ci := 9) (fs := [.int 0, .int 0, .int 0, .int 0, .null, .null]) tyX9 tyX9_ok inT9 tb_763 tb_754 tb_5 rfl nf_9 (Nat.le_of_ble_eq_true rfl) (Nat.le_of_ble_eq_true rfl) (c1 := 23) (s1 := 228) (n1 := 95) rfl rfl rfl dX2_init_36 (fun H w => ?_)
  refine lv_dup hx hb dX2_init_39 rfl ?_
  refine n_callN F w (b := 94) (As := []) (rest := [.ref (B + 94), .int 7, .ref (B + 72)]) (n_X9_init_38 (up_at)) gc_X9_init rfl tb_5 (by decide) tb_756 hs_X9_init ⟨(Nat.le_of_ble_eq_true rfl), (Nat.le_of_ble_eq_true rfl)⟩ hl.1 rfl (Nat.le_of_ble_eq_true rfl) ⟨(Nat.le_of_ble_eq_true rfl), (Nat.le_of_ble_eq_true rfl)⟩ (k1 := 25) (k2 := 252) rfl rfl dX2_init_40 (fun H locs w => ?_)
  refine n_ast F w (a := 72) (v := 94) (j := 7) (t := 5) (ci := 9) (by decide) (by decide) ((up_ne (by decide)).trans ((up_ne (by decide)).trans ((up_ne (by decide)).trans ((up_ne (by decide)).trans ((up_ne (by decide)).trans up_at))))) rfl (up_at) rfl ⟨by decide, by decide⟩ (by decide) dX2_init_43 (fun H locs w => ?_)
  refine lv_iinc (v := 8) (lv' := [(1, .int 8), (0, .ref (B + 71))]) hx hb dX2_init_44 hl (k := 0) rfl (by decide) (by decide) rfl (fun ls hl => ?_)
  refine lv_goto (tgt := 25) hx hb dX2_init_47 (by decide) ?_
  refine lv_iload_n hx hb dX2_init_25 rfl (lv_at hl 0 rfl) ?_
  refine lv_bipush (v := 12) hx hb dX2_init_26 (by decide) ?_
  refine lv_icmp_ge (tgt := 50) hx hb dX2_init_28 (by decide) (fun c1 => absurd c1 (by decide)) (fun _ => ?_)
  refine lv_aload_n hx hb dX2_init_31 rfl (lv_at hl 1 rfl) ?_
  refine n_get F w (a := 71) (C := RX2) (T := TX2) (N := 3) (ci := 2) (k := 0) (by decide) ((up_ne (by decide)).trans ((up_ne (by decide)).trans ((up_ne (by decide)).trans ((up_ne (by decide)).trans ((up_ne (by decide)).trans ((up_ne (by decide)).trans ((up_ne (by decide)).trans ((up_ne (by decide)).trans ((up_ne (by decide)).trans ((up_ne (by decide)).trans ((up_ne (by decide)).trans ((up_ne (by decide)).trans ((up_ne (by decide)).trans ((up_ne (by decide)).trans ((up_ne (by decide)).trans ((up_ne (by decide)).trans ((up_ne (by decide)).trans ((up_ne (by decide)).trans ((up_ne (by decide)).trans ((up_ne (by decide)).trans ((up_ne (by decide)).trans ((up_ne (by decide)).trans ((up_ne (by decide)).trans ((up_ne (by decide)).trans ((up_ne (by decide)).trans ((up_ne (by decide)).trans ((up_ne (by decide)).trans ((up_ne (by decide)).trans ((up_ne (by decide)).trans ((up_ne (by decide)).trans ((up_ne (by decide)).trans ((up_ne (by decide)).trans ((up_ne (by decide)).trans ((up_ne (by decide)).trans ((up_ne (by decide)).trans ((up_ne (by decide)).trans ((up_ne (by decide)).trans ((up_ne (by decide)).trans ((up_ne (by decide)).trans ((up_ne (by decide)).trans ((up_ne (by decide)).trans ((up_ne (by decide)).trans ((up_ne (by decide)).trans ((up_ne (by decide)).trans ((up_ne (by decide)).trans ((up_ne (by decide)).trans ((up_ne (by decide)).trans ((up_ne (by decide)).trans up_at)))))))))))))))))))))))))))))))))))))))))))))))) rfl inT2 (by decide) rfl tb_202 rfl dX2_init_32 ?_
  refine lv_iload_n hx hb dX2_init_35 rfl (lv_at hl 0 rfl) ?_
  refine n_new F w (C := RX9) (T := TX9) (N := 6) (ci := 9) (fs := [.int 0, .int 0, .int 0, .int 0, .null, .null]) tyX9 tyX9_ok inT9 tb_763 tb_754 tb_5 rfl nf_9 (Nat.le_of_ble_eq_true rfl) (Nat.le_of_ble_eq_true rfl) (c1 := 26) (s1 := 258) (n1 := 98) rfl rfl rfl dX2_init_36 (fun H w => ?_)
  refine lv_dup hx hb dX2_init_39 rfl ?_
  refine n_callN F w (b := 97) (As := []) (rest := [.ref (B + 97), .int 8, .ref (B + 72)]) (n_X9_init_39 (up_at)) gc_X9_init rfl tb_5 (by decide) tb_756 hs_X9_init ⟨(Nat.le_of_ble_eq_true rfl), (Nat.le_of_ble_eq_true rfl)⟩ hl.1 rfl (Nat.le_of_ble_eq_true rfl) ⟨(Nat.le_of_ble_eq_true rfl), (Nat.le_of_ble_eq_true rfl)⟩ (k1 := 28) (k2 := 282) rfl rfl dX2_init_40 (fun H locs w => ?_)
  refine n_ast F w (a := 72) (v := 97) (j := 8) (t := 5) (ci := 9) (by decide) (by decide) ((up_ne (by decide)).trans ((up_ne (by decide)).trans ((up_ne (by decide)).trans ((up_ne (by decide)).trans ((up_ne (by decide)).trans up_at))))) rfl (up_at) rfl ⟨by decide, by decide⟩ (by decide) dX2_init_43 (fun H locs w => ?_)
  refine lv_iinc (v := 9) (lv' := [(1, .int 9), (0, .ref (B + 71))]) hx hb dX2_init_44 hl (k := 0) rfl (by decide) (by decide) rfl (fun ls hl => ?_)
  refine lv_goto (tgt := 25) hx hb dX2_init_47 (by decide) ?_
  refine lv_iload_n hx hb dX2_init_25 rfl (lv_at hl 0 rfl) ?_
  refine lv_bipush (v := 12) hx hb dX2_init_26 (by decide) ?_
  refine lv_icmp_ge (tgt := 50) hx hb dX2_init_28 (by decide) (fun c1 => absurd c1 (by decide)) (fun _ => ?_)
  refine lv_aload_n hx hb dX2_init_31 rfl (lv_at hl 1 rfl) ?_
  refine n_get F w (a := 71) (C := RX2) (T := TX2) (N := 3) (ci := 2) (k := 0) (by decide) ((up_ne (by decide)).trans ((up_ne (by decide)).trans ((up_ne (by decide)).trans ((up_ne (by decide)).trans ((up_ne (by decide)).trans ((up_ne (by decide)).trans ((up_ne (by decide)).trans ((up_ne (by decide)).trans ((up_ne (by decide)).trans ((up_ne (by decide)).trans ((up_ne (by decide)).trans ((up_ne (by decide)).trans ((up_ne (by decide)).trans ((up_ne (by decide)).trans ((up_ne (by decide)).trans ((up_ne (by decide)).trans ((up_ne (by decide)).trans ((up_ne (by decide)).trans ((up_ne (by decide)).trans ((up_ne (by decide)).trans ((up_ne (by decide)).trans ((up_ne (by decide)).trans ((up_ne (by decide)).trans ((up_ne (by decide)).trans ((up_ne (by decide)).trans ((up_ne (by decide)).trans ((up_ne (by decide)).trans ((up_ne (by decide)).trans ((up_ne (by decide)).trans ((up_ne (by decide)).trans ((up_ne (by decide)).trans ((up_ne (by decide)).trans ((up_ne (by decide)).trans ((up_ne (by decide)).trans ((up_ne (by decide)).trans ((up_ne (by decide)).trans ((up_ne (by decide)).trans ((up_ne (by decide)).trans ((up_ne (by decide)).trans ((up_ne (by decide)).trans ((up_ne (by decide)).trans ((up_ne (by decide)).trans ((up_ne (by decide)).trans ((up_ne (by decide)).trans ((up_ne (by decide)).trans ((up_ne (by decide)).trans ((up_ne (by decide)).trans ((up_ne (by decide)).trans ((up_ne (by decide)).trans ((up_ne (by decide)).trans ((up_ne (by decide)).trans ((up_ne (by decide)).trans ((up_ne (by decide)).trans ((up_ne (by decide)).trans up_at)))))))))))))))))))))))))))))))))))))))))))))))))))))) rfl inT2 (by decide) rfl tb_202 rfl dX2_init_32 ?_
  refine lv_iload_n hx hb dX2_init_35 rfl (lv_at hl 0 rfl) ?_
  refine n_new F w (C := RX9) (T := TX9) (N := 6) (ci := 9) (fs := [.int 0, .int 0, .int 0, .int 0, .null, .null]) tyX9 tyX9_ok inT9 tb_763 tb_754 tb_5 rfl nf_9 (Nat.le_of_ble_eq_true rfl) (Nat.le_of_ble_eq_true rfl) (c1 := 29) (s1 := 288) (n1 := 101) rfl rfl rfl dX2_init_36 (fun H w => ?_)
  refine lv_dup hx hb dX2_init_39 rfl ?_
  refine n_callN F w (b := 100) (As := []) (rest := [.ref (B + 100), .int 9, .ref (B + 72)]) (n_X9_init_40 (up_at)) gc_X9_init rfl tb_5 (by decide) tb_756 hs_X9_init ⟨(Nat.le_of_ble_eq_true rfl), (Nat.le_of_ble_eq_true rfl)⟩ hl.1 rfl (Nat.le_of_ble_eq_true rfl) ⟨(Nat.le_of_ble_eq_true rfl), (Nat.le_of_ble_eq_true rfl)⟩ (k1 := 31) (k2 := 312) rfl rfl dX2_init_40 (fun H locs w => ?_)
  refine n_ast F w (a := 72) (v := 100) (j := 9) (t := 5) (ci := 9) (by decide) (by decide) ((up_ne (by decide)).trans ((up_ne (by decide)).trans ((up_ne (by decide)).trans ((up_ne (by decide)).trans ((up_ne (by decide)).trans up_at))))) rfl (up_at) rfl ⟨by decide, by decide⟩ (by decide) dX2_init_43 (fun H locs w => ?_)
  refine lv_iinc (v := 10) (lv' := [(1, .int 10), (0, .ref (B + 71))]) hx hb dX2_init_44 hl (k := 0) rfl (by decide) (by decide) rfl (fun ls hl => ?_)
  refine lv_goto (tgt := 25) hx hb dX2_init_47 (by decide) ?_
  refine lv_iload_n hx hb dX2_init_25 rfl (lv_at hl 0 rfl) ?_
  refine lv_bipush (v := 12) hx hb dX2_init_26 (by decide) ?_
  refine lv_icmp_ge (tgt := 50) hx hb dX2_init_28 (by decide) (fun c1 => absurd c1 (by decide)) (fun _ => ?_)
  refine lv_aload_n hx hb dX2_init_31 rfl (lv_at hl 1 rfl) ?_
  refine n_get F w (a := 71) (C := RX2) (T := TX2) (N := 3) (ci := 2) (k := 0) (by decide) ((up_ne (by decide)).trans ((up_ne (by decide)).trans ((up_ne (by decide)).trans ((up_ne (by decide)).trans ((up_ne (by decide)).trans ((up_ne (by decide)).trans ((up_ne (by decide)).trans ((up_ne (by decide)).trans ((up_ne (by decide)).trans ((up_ne (by decide)).trans ((up_ne (by decide)).trans ((up_ne (by decide)).trans ((up_ne (by decide)).trans ((up_ne (by decide)).trans ((up_ne (by decide)).trans ((up_ne (by decide)).trans ((up_ne (by decide)).trans ((up_ne (by decide)).trans ((up_ne (by decide)).trans ((up_ne (by decide)).trans ((up_ne (by decide)).trans ((up_ne (by decide)).trans ((up_ne (by decide)).trans ((up_ne (by decide)).trans ((up_ne (by decide)).trans ((up_ne (by decide)).trans ((up_ne (by decide)).trans ((up_ne (by decide)).trans ((up_ne (by decide)).trans ((up_ne (by decide)).trans ((up_ne (by decide)).trans ((up_ne (by decide)).trans ((up_ne (by decide)).trans ((up_ne (by decide)).trans ((up_ne (by decide)).trans ((up_ne (by decide)).trans ((up_ne (by decide)).trans ((up_ne (by decide)).trans ((up_ne (by decide)).trans ((up_ne (by decide)).trans ((up_ne (by decide)).trans ((up_ne (by decide)).trans ((up_ne (by decide)).trans ((up_ne (by decide)).trans ((up_ne (by decide)).trans ((up_ne (by decide)).trans ((up_ne (by decide)).trans ((up_ne (by decide)).trans ((up_ne (by decide)).trans ((up_ne (by decide)).trans ((up_ne (by decide)).trans ((up_ne (by decide)).trans ((up_ne (by decide)).trans ((up_ne (by decide)).trans ((up_ne (by decide)).trans ((up_ne (by decide)).trans ((up_ne (by decide)).trans ((up_ne (by decide)).trans ((up_ne (by decide)).trans ((up_ne (by decide)).trans up_at)))))))))))))))))))))))))))))))))))))))))))))))))))))))))))) rfl inT2 (by decide) rfl tb_202 rfl dX2_init_32 ?_
  refine lv_iload_n hx hb dX2_init_35 rfl (lv_at hl 0 rfl) ?_
  refine n_new F w (C := RX9) (T := TX9) (N := 6) (ci := 9) (fs := [.int 0, .int 0, .int 0, .int 0, .null, .null]) tyX9 tyX9_ok inT9 tb_763 tb_754 tb_5 rfl nf_9 (Nat.le_of_ble_eq_true rfl) (Nat.le_of_ble_eq_true rfl) (c1 := 32) (s1 := 318) (n1 := 104) rfl rfl rfl dX2_init_36 (fun H w => ?_)
  refine lv_dup hx hb dX2_init_39 rfl ?_
  refine n_callN F w (b := 103) (As := []) (rest := [.ref (B + 103), .int 10, .ref (B + 72)]) (n_X9_init_41 (up_at)) gc_X9_init rfl tb_5 (by decide) tb_756 hs_X9_init ⟨(Nat.le_of_ble_eq_true rfl), (Nat.le_of_ble_eq_true rfl)⟩ hl.1 rfl (Nat.le_of_ble_eq_true rfl) ⟨(Nat.le_of_ble_eq_true rfl), (Nat.le_of_ble_eq_true rfl)⟩ (k1 := 34) (k2 := 342) rfl rfl dX2_init_40 (fun H locs w => ?_)
  refine n_ast F w (a := 72) (v := 103) (j := 10) (t := 5) (ci := 9) (by decide) (by decide) ((up_ne (by decide)).trans ((up_ne (by decide)).trans ((up_ne (by decide)).trans ((up_ne (by decide)).trans ((up_ne (by decide)).trans up_at))))) rfl (up_at) rfl ⟨by decide, by decide⟩ (by decide) dX2_init_43 (fun H locs w => ?_)
  refine lv_iinc (v := 11) (lv' := [(1, .int 11), (0, .ref (B + 71))]) hx hb dX2_init_44 hl (k := 0) rfl (by decide) (by decide) rfl (fun ls hl => ?_)
  refine lv_goto (tgt := 25) hx hb dX2_init_47 (by decide) ?_
  refine lv_iload_n hx hb dX2_init_25 rfl (lv_at hl 0 rfl) ?_
  refine lv_bipush (v := 12) hx hb dX2_init_26 (by decide) ?_
  refine lv_icmp_ge (tgt := 50) hx hb dX2_init_28 (by decide) (fun c1 => absurd c1 (by decide)) (fun _ => ?_)
  refine lv_aload_n hx hb dX2_init_31 rfl (lv_at hl 1 rfl) ?_
  refine n_get F w (a := 71) (C := RX2) (T := TX2) (N := 3) (ci := 2) (k := 0) (by decide) ((up_ne (by decide)).trans ((up_ne (by decide)).trans ((up_ne (by decide)).trans ((up_ne (by decide)).trans ((up_ne (by decide)).trans ((up_ne (by decide)).trans ((up_ne (by decide)).trans ((up_ne (by decide)).trans ((up_ne (by decide)).trans ((up_ne (by decide)).trans ((up_ne (by decide)).trans ((up_ne (by decide)).trans ((up_ne (by decide)).trans ((up_ne (by decide)).trans ((up_ne (by decide)).trans ((up_ne (by decide)).trans ((up_ne (by decide)).trans ((up_ne (by decide)).trans ((up_ne (by decide)).trans ((up_ne (by decide)).trans ((up_ne (by decide)).trans ((up_ne (by decide)).trans ((up_ne (by decide)).trans ((up_ne (by decide)).trans ((up_ne (by decide)).trans ((up_ne (by decide)).trans ((up_ne (by decide)).trans ((up_ne (by decide)).trans ((up_ne (by decide)).trans ((up_ne (by decide)).trans ((up_ne (by decide)).trans ((up_ne (by decide)).trans ((up_ne (by decide)).trans ((up_ne (by decide)).trans ((up_ne (by decide)).trans ((up_ne (by decide)).trans ((up_ne (by decide)).trans ((up_ne (by decide)).trans ((up_ne (by decide)).trans ((up_ne (by decide)).trans ((up_ne (by decide)).trans ((up_ne (by decide)).trans ((up_ne (by decide)).trans ((up_ne (by decide)).trans ((up_ne (by decide)).trans ((up_ne (by decide)).trans ((up_ne (by decide)).trans ((up_ne (by decide)).trans ((up_ne (by decide)).trans ((up_ne (by decide)).trans ((up_ne (by decide)).trans ((up_ne (by decide)).trans ((up_ne (by decide)).trans ((up_ne (by decide)).trans ((up_ne (by decide)).trans ((up_ne (by decide)).trans ((up_ne (by decide)).trans ((up_ne (by decide)).trans ((up_ne (by decide)).trans ((up_ne (by decide)).trans ((up_ne (by decide)).trans ((up_ne (by decide)).trans ((up_ne (by decide)).trans ((up_ne (by decide)).trans ((up_ne (by decide)).trans ((up_ne (by decide)).trans up_at)))))))))))))))))))))))))))))))))))))))))))))))))))))))))))))))))) rfl inT2 (by decide) rfl tb_202 rfl dX2_init_32 ?_
  refine lv_iload_n hx hb dX2_init_35 rfl (lv_at hl 0 rfl) ?_
  refine n_new F w (C := RX9) (T := TX9) (N := 6) (ci := 9) (fs := [.int 0, .int 0, .int 0, .int 0, .null, .null]) tyX9 tyX9_ok inT9 tb_763 tb_754 tb_5 rfl nf_9 (Nat.le_of_ble_eq_true rfl) (Nat.le_of_ble_eq_true rfl) (c1 := 35) (s1 := 348) (n1 := 107) rfl rfl rfl dX2_init_36 (fun H w => ?_)
  refine lv_dup hx hb dX2_init_39 rfl ?_
  refine n_callN F w (b := 106) (As := []) (rest := [.ref (B + 106), .int 11, .ref (B + 72)]) (n_X9_init_42 (up_at)) gc_X9_init rfl tb_5 (by decide) tb_756 hs_X9_init ⟨(Nat.le_of_ble_eq_true rfl), (Nat.le_of_ble_eq_true rfl)⟩ hl.1 rfl (Nat.le_of_ble_eq_true rfl) ⟨(Nat.le_of_ble_eq_true rfl), (Nat.le_of_ble_eq_true rfl)⟩ (k1 := 37) (k2 := 372) rfl rfl dX2_init_40 (fun H locs w => ?_)
  refine n_ast F w (a := 72) (v := 106) (j := 11) (t := 5) (ci := 9) (by decide) (by decide) ((up_ne (by decide)).trans ((up_ne (by decide)).trans ((up_ne (by decide)).trans ((up_ne (by decide)).trans ((up_ne (by decide)).trans up_at))))) rfl (up_at) rfl ⟨by decide, by decide⟩ (by decide) dX2_init_43 (fun H locs w => ?_)
  refine lv_iinc (v := 12) (lv' := [(1, .int 12), (0, .ref (B + 71))]) hx hb dX2_init_44 hl (k := 0) rfl (by decide) (by decide) rfl (fun ls hl => ?_)
  refine lv_goto (tgt := 25) hx hb dX2_init_47 (by decide) ?_
  refine lv_iload_n hx hb dX2_init_25 rfl (lv_at hl 0 rfl) ?_
  refine lv_bipush (v := 12) hx hb dX2_init_26 (by decide) ?_
  refine lv_icmp_ge (tgt := 50) hx hb dX2_init_28 (by decide) (fun _ => ?_) (fun c1 => absurd c1 (by decide))
  exact n_end F w hr hlocks dX2_init_50
theorem tk_X2_init : Cond.code yX2_init cX2_init 2 none ∈ TB := tbm (tc1 (List.mem_of_getElem? (i := 206) rfl)) rfl
theorem gc_X2_init : GoodIn TB (cw yX2_init cX2_init 2 none) := goodIn_c2 tk_X2_init
theorem hs_X2_init : yX2_init.cls ≠ "java/lang/invoke/MethodHandle" ∧ yX2_init.cls ≠ "java/lang/invoke/VarHandle" ∧ (parseMethodDescriptor yX2_init.desc).map (fun d => d.parameters.length) = some 0 := by decide +kernel
theorem tb_764 : Cond.methodLink "ToneLines" 46 yX2_init ∈ TB := tbm (tc1 (List.mem_of_getElem? (i := 204) rfl)) rfl
theorem tb_765 : Cond.instanceMethod yX2_init ∈ TB := tbm (tc1 (List.mem_of_getElem? (i := 205) rfl)) rfl
theorem dX11_init_75 : decode cX11_init 75 = .ok (.putfield 47, 3) := dqV kk_181 (by decide +kernel)
theorem dX11_init_78 : decode cX11_init 78 = .ok (.aload_n 0, 1) := dq0 kk_42 (by decide +kernel)
theorem dX11_init_79 : decode cX11_init 79 = .ok (.new 51, 3) := dqV kk_187 (by decide +kernel)
theorem tb_766 : Cond.classLink "ToneLines" 51 "ToneLines$Orders" ∈ TB := tbm (tc1 (List.mem_of_getElem? (i := 221) rfl)) rfl
theorem tb_767 : Cond.instantiable "ToneLines$Orders" 7 ∈ TB := tbm (tc1 (List.mem_of_getElem? (i := 222) rfl)) rfl
theorem dX11_init_82 : decode cX11_init 82 = .ok (.dup, 1) := dq0 kk_89 (by decide +kernel)
theorem dX11_init_83 : decode cX11_init 83 = .ok (.invokespecial 53, 3) := dqV kk_183 (by decide +kernel)
theorem dX3_init_0 : decode cX3_init 0 = .ok (.aload_n 0, 1) := dq0 kk_42 (by decide +kernel)
theorem dX3_init_1 : decode cX3_init 1 = .ok (.invokespecial 3, 3) := dqV kk_183 (by decide +kernel)
theorem tb_768 : Cond.methodLink "ToneLines$Orders" 3 ⟨"java/lang/Object", "<init>", "()V"⟩ ∈ TB := tbm (tc1 (List.mem_of_getElem? (i := 226) rfl)) rfl
theorem dX3_init_4 : decode cX3_init 4 = .ok (.aload_n 0, 1) := dq0 kk_42 (by decide +kernel)
theorem dX3_init_5 : decode cX3_init 5 = .ok (.iconst 0, 1) := dq0 kk_3 (by decide +kernel)
theorem dX3_init_6 : decode cX3_init 6 = .ok (.putfield 9, 3) := dqV kk_181 (by decide +kernel)
theorem dX3_init_9 : decode cX3_init 9 = .ok (.aload_n 0, 1) := dq0 kk_42 (by decide +kernel)
theorem dX3_init_10 : decode cX3_init 10 = .ok (.iconst 0, 1) := dq0 kk_3 (by decide +kernel)
theorem dX3_init_11 : decode cX3_init 11 = .ok (.putfield 15, 3) := dqV kk_181 (by decide +kernel)
theorem dX3_init_14 : decode cX3_init 14 = .ok (.aload_n 0, 1) := dq0 kk_42 (by decide +kernel)
theorem dX3_init_15 : decode cX3_init 15 = .ok (.iconst 0, 1) := dq0 kk_3 (by decide +kernel)
theorem dX3_init_16 : decode cX3_init 16 = .ok (.putfield 19, 3) := dqV kk_181 (by decide +kernel)
theorem dX3_init_19 : decode cX3_init 19 = .ok (.aload_n 0, 1) := dq0 kk_42 (by decide +kernel)
theorem dX3_init_20 : decode cX3_init 20 = .ok (.bipush 6, 2) := dqS kk_16 (by decide +kernel)
theorem dX3_init_22 : decode cX3_init 22 = .ok (.newarray .int, 2) := by decide +kernel
theorem dX3_init_24 : decode cX3_init 24 = .ok (.putfield 22, 3) := dqV kk_181 (by decide +kernel)
theorem dX3_init_27 : decode cX3_init 27 = .ok (.aload_n 0, 1) := dq0 kk_42 (by decide +kernel)
theorem dX3_init_28 : decode cX3_init 28 = .ok (.bipush 7, 2) := dqS kk_16 (by decide +kernel)
theorem dX3_init_30 : decode cX3_init 30 = .ok (.anewarray 26, 3) := dqV kk_189 (by decide +kernel)
theorem tb_769 : Cond.classLink "ToneLines$Orders" 26 "ToneLines$Word" ∈ TB := tbm (tc1 (List.mem_of_getElem? (i := 227) rfl)) rfl
theorem dX3_init_33 : decode cX3_init 33 = .ok (.putfield 28, 3) := dqV kk_181 (by decide +kernel)
theorem dX3_init_36 : decode cX3_init 36 = .ok (.aload_n 0, 1) := dq0 kk_42 (by decide +kernel)
theorem dX3_init_37 : decode cX3_init 37 = .ok (.sipush 720, 3) := dqT kk_17 (by decide +kernel)
theorem dX3_init_40 : decode cX3_init 40 = .ok (.newarray .long, 2) := by decide +kernel
theorem tb_770 : Cond.arrayClass FieldType.long ∈ TB := tbm (tc2 (List.mem_of_getElem? (i := 14) rfl)) rfl
theorem dX3_init_42 : decode cX3_init 42 = .ok (.putfield 32, 3) := dqV kk_181 (by decide +kernel)
theorem dX3_init_45 : decode cX3_init 45 = .ok (.aload_n 0, 1) := dq0 kk_42 (by decide +kernel)
theorem dX3_init_46 : decode cX3_init 46 = .ok (.sipush 720, 3) := dqT kk_17 (by decide +kernel)
theorem dX3_init_49 : decode cX3_init 49 = .ok (.newarray .long, 2) := by decide +kernel
theorem dX3_init_51 : decode cX3_init 51 = .ok (.putfield 36, 3) := dqV kk_181 (by decide +kernel)
theorem dX3_init_54 : decode cX3_init 54 = .ok (.iconst 0, 1) := dq0 kk_3 (by decide +kernel)
theorem dX3_init_55 : decode cX3_init 55 = .ok (.istore_n 1, 1) := dq0 kk_60 (by decide +kernel)
theorem dX3_init_56 : decode cX3_init 56 = .ok (.iload_n 1, 1) := dq0 kk_27 (by decide +kernel)
theorem dX3_init_57 : decode cX3_init 57 = .ok (.bipush 6, 2) := dqS kk_16 (by decide +kernel)
theorem dX3_init_59 : decode cX3_init 59 = .ok (.if_icmp .gt 22, 3) := dqT kk_163 (by decide +kernel)
theorem dX3_init_62 : decode cX3_init 62 = .ok (.aload_n 0, 1) := dq0 kk_42 (by decide +kernel)
theorem dX3_init_63 : decode cX3_init 63 = .ok (.getfield 28, 3) := dqV kk_180 (by decide +kernel)
theorem dX3_init_66 : decode cX3_init 66 = .ok (.iload_n 1, 1) := dq0 kk_27 (by decide +kernel)
theorem dX3_init_67 : decode cX3_init 67 = .ok (.new 26, 3) := dqV kk_187 (by decide +kernel)
theorem dX3_init_70 : decode cX3_init 70 = .ok (.dup, 1) := dq0 kk_89 (by decide +kernel)
theorem dX3_init_71 : decode cX3_init 71 = .ok (.invokespecial 39, 3) := dqV kk_183 (by decide +kernel)
set_option maxRecDepth 8000 in
theorem n_X9_init_44 {l : Launch} {D : va_G} {B : Nat} {cy : Nat → ClassId} {E : Nat → va_E} (h0 : E 114 = .inr (9, [.int 0, .int 0, .int 0, .int 0, .null, .null])) : Cn l D B cy yX9_init cX9_init 1 1 12 2 24 [.ref (B + 114)] 115 E 117 (va_up (va_up (va_up (va_up E 115 (.inl (cy 2, 12, .inl (fun _ => 0)))) 114 (.inr (9, [.int 0, .int 0, .int 0, .int 0, .ref (B + 115), .null]))) 116 (.inl (cy 2, 12, .inl (fun _ => 0)))) 114 (.inr (9, [.int 0, .int 0, .int 0, .int 0, .ref (B + 115), .ref (B + 116)]))) := by
  refine n_start (by decide) (Nat.le_of_ble_eq_true rfl) rfl ?_
  intro p e s m below meth c ls F hr hlocks hin w hl
  have F : CallFix p m c cX9_init 1 s _ TB RX9 := F
  have hx := F.1
  have hb := F.2.1
  have hl : lv_has ls 1 [(0, .ref (B + 114))] := hl
  refine lv_aload_n hx hb dX9_init_0 rfl (lv_at hl 0 rfl) ?_
  refine n_obj F hl.1 tb_755 tb_723 tk_obj dX9_init_1 (Nat.le_of_ble_eq_true rfl) (Nat.le_of_ble_eq_true rfl) ?_
  refine lv_aload_n hx hb dX9_init_4 rfl (lv_at hl 0 rfl) ?_
  refine lv_iconst (v := 0) hx hb dX9_init_5 (by decide) ?_
  refine n_put F w (a := 114) (C := RX9) (T := TX9) (N := 6) (ci := 9) (k := 0) (x := .int 0) (ty := .int) (fs1 := [.int 0, .int 0, .int 0, .int 0, .null, .null]) tyX9 tyX9_ok nmX9 (by decide) (h0) rfl rfl inT9 (by decide) rfl tb_0 rfl (by decide +kernel) rfl rfl (Nat.le_of_ble_eq_true rfl) dX9_init_6 (fun H locs w => ?_)
  rw [up_same (h0)] at w
  refine lv_aload_n hx hb dX9_init_9 rfl (lv_at hl 0 rfl) ?_
  refine lv_iconst (v := 0) hx hb dX9_init_10 (by decide) ?_
  refine n_put F w (a := 114) (C := RX9) (T := TX9) (N := 6) (ci := 9) (k := 1) (x := .int 0) (ty := .int) (fs1 := [.int 0, .int 0, .int 0, .int 0, .null, .null]) tyX9 tyX9_ok nmX9 (by decide) (h0) rfl rfl inT9 (by decide) rfl tb_1 rfl (by decide +kernel) rfl rfl (Nat.le_of_ble_eq_true rfl) dX9_init_11 (fun H locs w => ?_)
  rw [up_same (h0)] at w
  refine lv_aload_n hx hb dX9_init_14 rfl (lv_at hl 0 rfl) ?_
  refine lv_iconst (v := 0) hx hb dX9_init_15 (by decide) ?_
  refine n_put F w (a := 114) (C := RX9) (T := TX9) (N := 6) (ci := 9) (k := 2) (x := .int 0) (ty := .int) (fs1 := [.int 0, .int 0, .int 0, .int 0, .null, .null]) tyX9 tyX9_ok nmX9 (by decide) (h0) rfl rfl inT9 (by decide) rfl tb_11 rfl (by decide +kernel) rfl rfl (Nat.le_of_ble_eq_true rfl) dX9_init_16 (fun H locs w => ?_)
  rw [up_same (h0)] at w
  refine lv_aload_n hx hb dX9_init_19 rfl (lv_at hl 0 rfl) ?_
  refine lv_iconst (v := 0) hx hb dX9_init_20 (by decide) ?_
  refine n_put F w (a := 114) (C := RX9) (T := TX9) (N := 6) (ci := 9) (k := 3) (x := .int 0) (ty := .int) (fs1 := [.int 0, .int 0, .int 0, .int 0, .null, .null]) tyX9 tyX9_ok nmX9 (by decide) (h0) rfl rfl inT9 (by decide) rfl tb_12 rfl (by decide +kernel) rfl rfl (Nat.le_of_ble_eq_true rfl) dX9_init_21 (fun H locs w => ?_)
  rw [up_same (h0)] at w
  refine lv_aload_n hx hb dX9_init_24 rfl (lv_at hl 0 rfl) ?_
  refine lv_bipush (v := 12) hx hb dX9_init_25 (by decide) ?_
  refine n_newa F w (atype := .int) (ty := .int) (t := 2) (N := 12) (cA := cy 2) (a0 := (12, .inl (fun _ => 0))) tb_741 rfl (fun _ h => h) rfl (fun _ => rfl) (by decide) (by decide) (Nat.le_of_ble_eq_true rfl) (Nat.le_of_ble_eq_true rfl) (Nat.le_of_ble_eq_true rfl) (c1 := 1) (s1 := 12) (n1 := 116) rfl rfl rfl dX9_init_27 (fun H w => ?_)
  refine n_putF F w (a := 114) (C := RX9) (T := TX9) (N := 6) (ci := 9) (k := 4) (x := .ref (B + 115)) (ty := .array .int) (fs1 := [.int 0, .int 0, .int 0, .int 0, .ref (B + 115), .null]) tyX9 tyX9_ok nmX9 (by decide) ((up_ne (by decide)).trans h0) rfl rfl inT9 (by decide) rfl tb_7 rfl hin rfl (by decide +kernel) rfl rfl (Nat.le_of_ble_eq_true rfl) dX9_init_29 (fun H locs w => ?_)
  refine lv_aload_n hx hb dX9_init_32 rfl (lv_at hl 0 rfl) ?_
  refine lv_bipush (v := 12) hx hb dX9_init_33 (by decide) ?_
  refine n_newa F w (atype := .int) (ty := .int) (t := 2) (N := 12) (cA := cy 2) (a0 := (12, .inl (fun _ => 0))) tb_741 rfl (fun _ h => h) rfl (fun _ => rfl) (by decide) (by decide) (Nat.le_of_ble_eq_true rfl) (Nat.le_of_ble_eq_true rfl) (Nat.le_of_ble_eq_true rfl) (c1 := 2) (s1 := 24) (n1 := 117) rfl rfl rfl dX9_init_35 (fun H w => ?_)
  refine n_putF F w (a := 114) (C := RX9) (T := TX9) (N := 6) (ci := 9) (k := 5) (x := .ref (B + 116)) (ty := .array .int) (fs1 := [.int 0, .int 0, .int 0, .int 0, .ref (B + 115), .ref (B + 116)]) tyX9 tyX9_ok nmX9 (by decide) ((up_ne (by decide)).trans up_at) rfl rfl inT9 (by decide) rfl tb_6 rfl hin rfl (by decide +kernel) rfl rfl (Nat.le_of_ble_eq_true rfl) dX9_init_37 (fun H locs w => ?_)
  exact n_end F w hr hlocks dX9_init_40
theorem dX3_init_74 : decode cX3_init 74 = .ok (.aastore, 1) := dq0 kk_83 (by decide +kernel)
theorem dX3_init_75 : decode cX3_init 75 = .ok (.iinc 1 1, 3) := dqI kk_132 (by decide +kernel)
theorem dX3_init_78 : decode cX3_init 78 = .ok (.goto (-22), 3) := dqT kk_167 (by decide +kernel)
set_option maxRecDepth 8000 in
theorem n_X9_init_45 {l : Launch} {D : va_G} {B : Nat} {cy : Nat → ClassId} {E : Nat → va_E} (h0 : E 117 = .inr (9, [.int 0, .int 0, .int 0, .int 0, .null, .null])) : Cn l D B cy yX9_init cX9_init 1 1 12 2 24 [.ref (B + 117)] 118 E 120 (va_up (va_up (va_up (va_up E 118 (.inl (cy 2, 12, .inl (fun _ => 0)))) 117 (.inr (9, [.int 0, .int 0, .int 0, .int 0, .ref (B + 118), .null]))) 119 (.inl (cy 2, 12, .inl (fun _ => 0)))) 117 (.inr (9, [.int 0, .int 0, .int 0, .int 0, .ref (B + 118), .ref (B + 119)]))) := by
  refine n_start (by decide) (Nat.le_of_ble_eq_true rfl) rfl ?_
  intro p e s m below meth c ls F hr hlocks hin w hl
  have F : CallFix p m c cX9_init 1 s _ TB RX9 := F
  have hx := F.1
  have hb := F.2.1
  have hl : lv_has ls 1 [(0, .ref (B + 117))] := hl
  refine lv_aload_n hx hb dX9_init_0 rfl (lv_at hl 0 rfl) ?_
  refine n_obj F hl.1 tb_755 tb_723 tk_obj dX9_init_1 (Nat.le_of_ble_eq_true rfl) (Nat.le_of_ble_eq_true rfl) ?_
  refine lv_aload_n hx hb dX9_init_4 rfl (lv_at hl 0 rfl) ?_
  refine lv_iconst (v := 0) hx hb dX9_init_5 (by decide) ?_
  refine n_put F w (a := 117) (C := RX9) (T := TX9) (N := 6) (ci := 9) (k := 0) (x := .int 0) (ty := .int) (fs1 := [.int 0, .int 0, .int 0, .int 0, .null, .null]) tyX9 tyX9_ok nmX9 (by decide) (h0) rfl rfl inT9 (by decide) rfl tb_0 rfl (by decide +kernel) rfl rfl (Nat.le_of_ble_eq_true rfl) dX9_init_6 (fun H locs w => ?_)
  rw [up_same (h0)] at w
  refine lv_aload_n hx hb dX9_init_9 rfl (lv_at hl 0 rfl) ?_
  refine lv_iconst (v := 0) hx hb dX9_init_10 (by decide) ?_
  refine n_put F w (a := 117) (C := RX9) (T := TX9) (N := 6) (ci := 9) (k := 1) (x := .int 0) (ty := .int) (fs1 := [.int 0, .int 0, .int 0, .int 0, .null, .null]) tyX9 tyX9_ok nmX9 (by decide) (h0) rfl rfl inT9 (by decide) rfl tb_1 rfl (by decide +kernel) rfl rfl (Nat.le_of_ble_eq_true rfl) dX9_init_11 (fun H locs w => ?_)
  rw [up_same (h0)] at w
  refine lv_aload_n hx hb dX9_init_14 rfl (lv_at hl 0 rfl) ?_
  refine lv_iconst (v := 0) hx hb dX9_init_15 (by decide) ?_
  refine n_put F w (a := 117) (C := RX9) (T := TX9) (N := 6) (ci := 9) (k := 2) (x := .int 0) (ty := .int) (fs1 := [.int 0, .int 0, .int 0, .int 0, .null, .null]) tyX9 tyX9_ok nmX9 (by decide) (h0) rfl rfl inT9 (by decide) rfl tb_11 rfl (by decide +kernel) rfl rfl (Nat.le_of_ble_eq_true rfl) dX9_init_16 (fun H locs w => ?_)
  rw [up_same (h0)] at w
  refine lv_aload_n hx hb dX9_init_19 rfl (lv_at hl 0 rfl) ?_
  refine lv_iconst (v := 0) hx hb dX9_init_20 (by decide) ?_
  refine n_put F w (a := 117) (C := RX9) (T := TX9) (N := 6) (ci := 9) (k := 3) (x := .int 0) (ty := .int) (fs1 := [.int 0, .int 0, .int 0, .int 0, .null, .null]) tyX9 tyX9_ok nmX9 (by decide) (h0) rfl rfl inT9 (by decide) rfl tb_12 rfl (by decide +kernel) rfl rfl (Nat.le_of_ble_eq_true rfl) dX9_init_21 (fun H locs w => ?_)
  rw [up_same (h0)] at w
  refine lv_aload_n hx hb dX9_init_24 rfl (lv_at hl 0 rfl) ?_
  refine lv_bipush (v := 12) hx hb dX9_init_25 (by decide) ?_
  refine n_newa F w (atype := .int) (ty := .int) (t := 2) (N := 12) (cA := cy 2) (a0 := (12, .inl (fun _ => 0))) tb_741 rfl (fun _ h => h) rfl (fun _ => rfl) (by decide) (by decide) (Nat.le_of_ble_eq_true rfl) (Nat.le_of_ble_eq_true rfl) (Nat.le_of_ble_eq_true rfl) (c1 := 1) (s1 := 12) (n1 := 119) rfl rfl rfl dX9_init_27 (fun H w => ?_)
  refine n_putF F w (a := 117) (C := RX9) (T := TX9) (N := 6) (ci := 9) (k := 4) (x := .ref (B + 118)) (ty := .array .int) (fs1 := [.int 0, .int 0, .int 0, .int 0, .ref (B + 118), .null]) tyX9 tyX9_ok nmX9 (by decide) ((up_ne (by decide)).trans h0) rfl rfl inT9 (by decide) rfl tb_7 rfl hin rfl (by decide +kernel) rfl rfl (Nat.le_of_ble_eq_true rfl) dX9_init_29 (fun H locs w => ?_)
  refine lv_aload_n hx hb dX9_init_32 rfl (lv_at hl 0 rfl) ?_
  refine lv_bipush (v := 12) hx hb dX9_init_33 (by decide) ?_
  refine n_newa F w (atype := .int) (ty := .int) (t := 2) (N := 12) (cA := cy 2) (a0 := (12, .inl (fun _ => 0))) tb_741 rfl (fun _ h => h) rfl (fun _ => rfl) (by decide) (by decide) (Nat.le_of_ble_eq_true rfl) (Nat.le_of_ble_eq_true rfl) (Nat.le_of_ble_eq_true rfl) (c1 := 2) (s1 := 24) (n1 := 120) rfl rfl rfl dX9_init_35 (fun H w => ?_)
  refine n_putF F w (a := 117) (C := RX9) (T := TX9) (N := 6) (ci := 9) (k := 5) (x := .ref (B + 119)) (ty := .array .int) (fs1 := [.int 0, .int 0, .int 0, .int 0, .ref (B + 118), .ref (B + 119)]) tyX9 tyX9_ok nmX9 (by decide) ((up_ne (by decide)).trans up_at) rfl rfl inT9 (by decide) rfl tb_6 rfl hin rfl (by decide +kernel) rfl rfl (Nat.le_of_ble_eq_true rfl) dX9_init_37 (fun H locs w => ?_)
  exact n_end F w hr hlocks dX9_init_40
set_option maxRecDepth 8000 in
theorem n_X9_init_46 {l : Launch} {D : va_G} {B : Nat} {cy : Nat → ClassId} {E : Nat → va_E} (h0 : E 120 = .inr (9, [.int 0, .int 0, .int 0, .int 0, .null, .null])) : Cn l D B cy yX9_init cX9_init 1 1 12 2 24 [.ref (B + 120)] 121 E 123 (va_up (va_up (va_up (va_up E 121 (.inl (cy 2, 12, .inl (fun _ => 0)))) 120 (.inr (9, [.int 0, .int 0, .int 0, .int 0, .ref (B + 121), .null]))) 122 (.inl (cy 2, 12, .inl (fun _ => 0)))) 120 (.inr (9, [.int 0, .int 0, .int 0, .int 0, .ref (B + 121), .ref (B + 122)]))) := by
  refine n_start (by decide) (Nat.le_of_ble_eq_true rfl) rfl ?_
  intro p e s m below meth c ls F hr hlocks hin w hl
  have F : CallFix p m c cX9_init 1 s _ TB RX9 := F
  have hx := F.1
  have hb := F.2.1
  have hl : lv_has ls 1 [(0, .ref (B + 120))] := hl
  refine lv_aload_n hx hb dX9_init_0 rfl (lv_at hl 0 rfl) ?_
  refine n_obj F hl.1 tb_755 tb_723 tk_obj dX9_init_1 (Nat.le_of_ble_eq_true rfl) (Nat.le_of_ble_eq_true rfl) ?_
  refine lv_aload_n hx hb dX9_init_4 rfl (lv_at hl 0 rfl) ?_
  refine lv_iconst (v := 0) hx hb dX9_init_5 (by decide) ?_
  refine n_put F w (a := 120) (C := RX9) (T := TX9) (N := 6) (ci := 9) (k := 0) (x := .int 0) (ty := .int) (fs1 := [.int 0, .int 0, .int 0, .int 0, .null, .null]) tyX9 tyX9_ok nmX9 (by decide) (h0) rfl rfl inT9 (by decide) rfl tb_0 rfl (by decide +kernel) rfl rfl (Nat.le_of_ble_eq_true rfl) dX9_init_6 (fun H locs w => ?_)
  rw [up_same (h0)] at w
  refine lv_aload_n hx hb dX9_init_9 rfl (lv_at hl 0 rfl) ?_
  refine lv_iconst (v := 0) hx hb dX9_init_10 (by decide) ?_
  refine n_put F w (a := 120) (C := RX9) (T := TX9) (N := 6) (ci := 9) (k := 1) (x := .int 0) (ty := .int) (fs1 := [.int 0, .int 0, .int 0, .int 0, .null, .null]) tyX9 tyX9_ok nmX9 (by decide) (h0) rfl rfl inT9 (by decide) rfl tb_1 rfl (by decide +kernel) rfl rfl (Nat.le_of_ble_eq_true rfl) dX9_init_11 (fun H locs w => ?_)
  rw [up_same (h0)] at w
  refine lv_aload_n hx hb dX9_init_14 rfl (lv_at hl 0 rfl) ?_
  refine lv_iconst (v := 0) hx hb dX9_init_15 (by decide) ?_
  refine n_put F w (a := 120) (C := RX9) (T := TX9) (N := 6) (ci := 9) (k := 2) (x := .int 0) (ty := .int) (fs1 := [.int 0, .int 0, .int 0, .int 0, .null, .null]) tyX9 tyX9_ok nmX9 (by decide) (h0) rfl rfl inT9 (by decide) rfl tb_11 rfl (by decide +kernel) rfl rfl (Nat.le_of_ble_eq_true rfl) dX9_init_16 (fun H locs w => ?_)
  rw [up_same (h0)] at w
  refine lv_aload_n hx hb dX9_init_19 rfl (lv_at hl 0 rfl) ?_
  refine lv_iconst (v := 0) hx hb dX9_init_20 (by decide) ?_
  refine n_put F w (a := 120) (C := RX9) (T := TX9) (N := 6) (ci := 9) (k := 3) (x := .int 0) (ty := .int) (fs1 := [.int 0, .int 0, .int 0, .int 0, .null, .null]) tyX9 tyX9_ok nmX9 (by decide) (h0) rfl rfl inT9 (by decide) rfl tb_12 rfl (by decide +kernel) rfl rfl (Nat.le_of_ble_eq_true rfl) dX9_init_21 (fun H locs w => ?_)
  rw [up_same (h0)] at w
  refine lv_aload_n hx hb dX9_init_24 rfl (lv_at hl 0 rfl) ?_
  refine lv_bipush (v := 12) hx hb dX9_init_25 (by decide) ?_
  refine n_newa F w (atype := .int) (ty := .int) (t := 2) (N := 12) (cA := cy 2) (a0 := (12, .inl (fun _ => 0))) tb_741 rfl (fun _ h => h) rfl (fun _ => rfl) (by decide) (by decide) (Nat.le_of_ble_eq_true rfl) (Nat.le_of_ble_eq_true rfl) (Nat.le_of_ble_eq_true rfl) (c1 := 1) (s1 := 12) (n1 := 122) rfl rfl rfl dX9_init_27 (fun H w => ?_)
  refine n_putF F w (a := 120) (C := RX9) (T := TX9) (N := 6) (ci := 9) (k := 4) (x := .ref (B + 121)) (ty := .array .int) (fs1 := [.int 0, .int 0, .int 0, .int 0, .ref (B + 121), .null]) tyX9 tyX9_ok nmX9 (by decide) ((up_ne (by decide)).trans h0) rfl rfl inT9 (by decide) rfl tb_7 rfl hin rfl (by decide +kernel) rfl rfl (Nat.le_of_ble_eq_true rfl) dX9_init_29 (fun H locs w => ?_)
  refine lv_aload_n hx hb dX9_init_32 rfl (lv_at hl 0 rfl) ?_
  refine lv_bipush (v := 12) hx hb dX9_init_33 (by decide) ?_
  refine n_newa F w (atype := .int) (ty := .int) (t := 2) (N := 12) (cA := cy 2) (a0 := (12, .inl (fun _ => 0))) tb_741 rfl (fun _ h => h) rfl (fun _ => rfl) (by decide) (by decide) (Nat.le_of_ble_eq_true rfl) (Nat.le_of_ble_eq_true rfl) (Nat.le_of_ble_eq_true rfl) (c1 := 2) (s1 := 24) (n1 := 123) rfl rfl rfl dX9_init_35 (fun H w => ?_)
  refine n_putF F w (a := 120) (C := RX9) (T := TX9) (N := 6) (ci := 9) (k := 5) (x := .ref (B + 122)) (ty := .array .int) (fs1 := [.int 0, .int 0, .int 0, .int 0, .ref (B + 121), .ref (B + 122)]) tyX9 tyX9_ok nmX9 (by decide) ((up_ne (by decide)).trans up_at) rfl rfl inT9 (by decide) rfl tb_6 rfl hin rfl (by decide +kernel) rfl rfl (Nat.le_of_ble_eq_true rfl) dX9_init_37 (fun H locs w => ?_)
  exact n_end F w hr hlocks dX9_init_40
set_option maxRecDepth 8000 in
theorem n_X9_init_47 {l : Launch} {D : va_G} {B : Nat} {cy : Nat → ClassId} {E : Nat → va_E} (h0 : E 123 = .inr (9, [.int 0, .int 0, .int 0, .int 0, .null, .null])) : Cn l D B cy yX9_init cX9_init 1 1 12 2 24 [.ref (B + 123)] 124 E 126 (va_up (va_up (va_up (va_up E 124 (.inl (cy 2, 12, .inl (fun _ => 0)))) 123 (.inr (9, [.int 0, .int 0, .int 0, .int 0, .ref (B + 124), .null]))) 125 (.inl (cy 2, 12, .inl (fun _ => 0)))) 123 (.inr (9, [.int 0, .int 0, .int 0, .int 0, .ref (B + 124), .ref (B + 125)]))) := by
  refine n_start (by decide) (Nat.le_of_ble_eq_true rfl) rfl ?_
  intro p e s m below meth c ls F hr hlocks hin w hl
  have F : CallFix p m c cX9_init 1 s _ TB RX9 := F
  have hx := F.1
  have hb := F.2.1
  have hl : lv_has ls 1 [(0, .ref (B + 123))] := hl
  refine lv_aload_n hx hb dX9_init_0 rfl (lv_at hl 0 rfl) ?_
  refine n_obj F hl.1 tb_755 tb_723 tk_obj dX9_init_1 (Nat.le_of_ble_eq_true rfl) (Nat.le_of_ble_eq_true rfl) ?_
  refine lv_aload_n hx hb dX9_init_4 rfl (lv_at hl 0 rfl) ?_
  refine lv_iconst (v := 0) hx hb dX9_init_5 (by decide) ?_
  refine n_put F w (a := 123) (C := RX9) (T := TX9) (N := 6) (ci := 9) (k := 0) (x := .int 0) (ty := .int) (fs1 := [.int 0, .int 0, .int 0, .int 0, .null, .null]) tyX9 tyX9_ok nmX9 (by decide) (h0) rfl rfl inT9 (by decide) rfl tb_0 rfl (by decide +kernel) rfl rfl (Nat.le_of_ble_eq_true rfl) dX9_init_6 (fun H locs w => ?_)
  rw [up_same (h0)] at w
  refine lv_aload_n hx hb dX9_init_9 rfl (lv_at hl 0 rfl) ?_
  refine lv_iconst (v := 0) hx hb dX9_init_10 (by decide) ?_
  refine n_put F w (a := 123) (C := RX9) (T := TX9) (N := 6) (ci := 9) (k := 1) (x := .int 0) (ty := .int) (fs1 := [.int 0, .int 0, .int 0, .int 0, .null, .null]) tyX9 tyX9_ok nmX9 (by decide) (h0) rfl rfl inT9 (by decide) rfl tb_1 rfl (by decide +kernel) rfl rfl (Nat.le_of_ble_eq_true rfl) dX9_init_11 (fun H locs w => ?_)
  rw [up_same (h0)] at w
  refine lv_aload_n hx hb dX9_init_14 rfl (lv_at hl 0 rfl) ?_
  refine lv_iconst (v := 0) hx hb dX9_init_15 (by decide) ?_
  refine n_put F w (a := 123) (C := RX9) (T := TX9) (N := 6) (ci := 9) (k := 2) (x := .int 0) (ty := .int) (fs1 := [.int 0, .int 0, .int 0, .int 0, .null, .null]) tyX9 tyX9_ok nmX9 (by decide) (h0) rfl rfl inT9 (by decide) rfl tb_11 rfl (by decide +kernel) rfl rfl (Nat.le_of_ble_eq_true rfl) dX9_init_16 (fun H locs w => ?_)
  rw [up_same (h0)] at w
  refine lv_aload_n hx hb dX9_init_19 rfl (lv_at hl 0 rfl) ?_
  refine lv_iconst (v := 0) hx hb dX9_init_20 (by decide) ?_
  refine n_put F w (a := 123) (C := RX9) (T := TX9) (N := 6) (ci := 9) (k := 3) (x := .int 0) (ty := .int) (fs1 := [.int 0, .int 0, .int 0, .int 0, .null, .null]) tyX9 tyX9_ok nmX9 (by decide) (h0) rfl rfl inT9 (by decide) rfl tb_12 rfl (by decide +kernel) rfl rfl (Nat.le_of_ble_eq_true rfl) dX9_init_21 (fun H locs w => ?_)
  rw [up_same (h0)] at w
  refine lv_aload_n hx hb dX9_init_24 rfl (lv_at hl 0 rfl) ?_
  refine lv_bipush (v := 12) hx hb dX9_init_25 (by decide) ?_
  refine n_newa F w (atype := .int) (ty := .int) (t := 2) (N := 12) (cA := cy 2) (a0 := (12, .inl (fun _ => 0))) tb_741 rfl (fun _ h => h) rfl (fun _ => rfl) (by decide) (by decide) (Nat.le_of_ble_eq_true rfl) (Nat.le_of_ble_eq_true rfl) (Nat.le_of_ble_eq_true rfl) (c1 := 1) (s1 := 12) (n1 := 125) rfl rfl rfl dX9_init_27 (fun H w => ?_)
  refine n_putF F w (a := 123) (C := RX9) (T := TX9) (N := 6) (ci := 9) (k := 4) (x := .ref (B + 124)) (ty := .array .int) (fs1 := [.int 0, .int 0, .int 0, .int 0, .ref (B + 124), .null]) tyX9 tyX9_ok nmX9 (by decide) ((up_ne (by decide)).trans h0) rfl rfl inT9 (by decide) rfl tb_7 rfl hin rfl (by decide +kernel) rfl rfl (Nat.le_of_ble_eq_true rfl) dX9_init_29 (fun H locs w => ?_)
  refine lv_aload_n hx hb dX9_init_32 rfl (lv_at hl 0 rfl) ?_
  refine lv_bipush (v := 12) hx hb dX9_init_33 (by decide) ?_
  refine n_newa F w (atype := .int) (ty := .int) (t := 2) (N := 12) (cA := cy 2) (a0 := (12, .inl (fun _ => 0))) tb_741 rfl (fun _ h => h) rfl (fun _ => rfl) (by decide) (by decide) (Nat.le_of_ble_eq_true rfl) (Nat.le_of_ble_eq_true rfl) (Nat.le_of_ble_eq_true rfl) (c1 := 2) (s1 := 24) (n1 := 126) rfl rfl rfl dX9_init_35 (fun H w => ?_)
  refine n_putF F w (a := 123) (C := RX9) (T := TX9) (N := 6) (ci := 9) (k := 5) (x := .ref (B + 125)) (ty := .array .int) (fs1 := [.int 0, .int 0, .int 0, .int 0, .ref (B + 124), .ref (B + 125)]) tyX9 tyX9_ok nmX9 (by decide) ((up_ne (by decide)).trans up_at) rfl rfl inT9 (by decide) rfl tb_6 rfl hin rfl (by decide +kernel) rfl rfl (Nat.le_of_ble_eq_true rfl) dX9_init_37 (fun H locs w => ?_)
  exact n_end F w hr hlocks dX9_init_40
set_option maxRecDepth 8000 in
theorem n_X9_init_48 {l : Launch} {D : va_G} {B : Nat} {cy : Nat → ClassId} {E : Nat → va_E} (h0 : E 126 = .inr (9, [.int 0, .int 0, .int 0, .int 0, .null, .null])) : Cn l D B cy yX9_init cX9_init 1 1 12 2 24 [.ref (B + 126)] 127 E 129 (va_up (va_up (va_up (va_up E 127 (.inl (cy 2, 12, .inl (fun _ => 0)))) 126 (.inr (9, [.int 0, .int 0, .int 0, .int 0, .ref (B + 127), .null]))) 128 (.inl (cy 2, 12, .inl (fun _ => 0)))) 126 (.inr (9, [.int 0, .int 0, .int 0, .int 0, .ref (B + 127), .ref (B + 128)]))) := by
  refine n_start (by decide) (Nat.le_of_ble_eq_true rfl) rfl ?_
  intro p e s m below meth c ls F hr hlocks hin w hl
  have F : CallFix p m c cX9_init 1 s _ TB RX9 := F
  have hx := F.1
  have hb := F.2.1
  have hl : lv_has ls 1 [(0, .ref (B + 126))] := hl
  refine lv_aload_n hx hb dX9_init_0 rfl (lv_at hl 0 rfl) ?_
  refine n_obj F hl.1 tb_755 tb_723 tk_obj dX9_init_1 (Nat.le_of_ble_eq_true rfl) (Nat.le_of_ble_eq_true rfl) ?_
  refine lv_aload_n hx hb dX9_init_4 rfl (lv_at hl 0 rfl) ?_
  refine lv_iconst (v := 0) hx hb dX9_init_5 (by decide) ?_
  refine n_put F w (a := 126) (C := RX9) (T := TX9) (N := 6) (ci := 9) (k := 0) (x := .int 0) (ty := .int) (fs1 := [.int 0, .int 0, .int 0, .int 0, .null, .null]) tyX9 tyX9_ok nmX9 (by decide) (h0) rfl rfl inT9 (by decide) rfl tb_0 rfl (by decide +kernel) rfl rfl (Nat.le_of_ble_eq_true rfl) dX9_init_6 (fun H locs w => ?_)
  rw [up_same (h0)] at w
  refine lv_aload_n hx hb dX9_init_9 rfl (lv_at hl 0 rfl) ?_
  refine lv_iconst (v := 0) hx hb dX9_init_10 (by decide) ?_
  refine n_put F w (a := 126) (C := RX9) (T := TX9) (N := 6) (ci := 9) (k := 1) (x := .int 0) (ty := .int) (fs1 := [.int 0, .int 0, .int 0, .int 0, .null, .null]) tyX9 tyX9_ok nmX9 (by decide) (h0) rfl rfl inT9 (by decide) rfl tb_1 rfl (by decide +kernel) rfl rfl (Nat.le_of_ble_eq_true rfl) dX9_init_11 (fun H locs w => ?_)
  rw [up_same (h0)] at w
  refine lv_aload_n hx hb dX9_init_14 rfl (lv_at hl 0 rfl) ?_
  refine lv_iconst (v := 0) hx hb dX9_init_15 (by decide) ?_
  refine n_put F w (a := 126) (C := RX9) (T := TX9) (N := 6) (ci := 9) (k := 2) (x := .int 0) (ty := .int) (fs1 := [.int 0, .int 0, .int 0, .int 0, .null, .null]) tyX9 tyX9_ok nmX9 (by decide) (h0) rfl rfl inT9 (by decide) rfl tb_11 rfl (by decide +kernel) rfl rfl (Nat.le_of_ble_eq_true rfl) dX9_init_16 (fun H locs w => ?_)
  rw [up_same (h0)] at w
  refine lv_aload_n hx hb dX9_init_19 rfl (lv_at hl 0 rfl) ?_
  refine lv_iconst (v := 0) hx hb dX9_init_20 (by decide) ?_
  refine n_put F w (a := 126) (C := RX9) (T := TX9) (N := 6) (ci := 9) (k := 3) (x := .int 0) (ty := .int) (fs1 := [.int 0, .int 0, .int 0, .int 0, .null, .null]) tyX9 tyX9_ok nmX9 (by decide) (h0) rfl rfl inT9 (by decide) rfl tb_12 rfl (by decide +kernel) rfl rfl (Nat.le_of_ble_eq_true rfl) dX9_init_21 (fun H locs w => ?_)
  rw [up_same (h0)] at w
  refine lv_aload_n hx hb dX9_init_24 rfl (lv_at hl 0 rfl) ?_
  refine lv_bipush (v := 12) hx hb dX9_init_25 (by decide) ?_
  refine n_newa F w (atype := .int) (ty := .int) (t := 2) (N := 12) (cA := cy 2) (a0 := (12, .inl (fun _ => 0))) tb_741 rfl (fun _ h => h) rfl (fun _ => rfl) (by decide) (by decide) (Nat.le_of_ble_eq_true rfl) (Nat.le_of_ble_eq_true rfl) (Nat.le_of_ble_eq_true rfl) (c1 := 1) (s1 := 12) (n1 := 128) rfl rfl rfl dX9_init_27 (fun H w => ?_)
  refine n_putF F w (a := 126) (C := RX9) (T := TX9) (N := 6) (ci := 9) (k := 4) (x := .ref (B + 127)) (ty := .array .int) (fs1 := [.int 0, .int 0, .int 0, .int 0, .ref (B + 127), .null]) tyX9 tyX9_ok nmX9 (by decide) ((up_ne (by decide)).trans h0) rfl rfl inT9 (by decide) rfl tb_7 rfl hin rfl (by decide +kernel) rfl rfl (Nat.le_of_ble_eq_true rfl) dX9_init_29 (fun H locs w => ?_)
  refine lv_aload_n hx hb dX9_init_32 rfl (lv_at hl 0 rfl) ?_
  refine lv_bipush (v := 12) hx hb dX9_init_33 (by decide) ?_
  refine n_newa F w (atype := .int) (ty := .int) (t := 2) (N := 12) (cA := cy 2) (a0 := (12, .inl (fun _ => 0))) tb_741 rfl (fun _ h => h) rfl (fun _ => rfl) (by decide) (by decide) (Nat.le_of_ble_eq_true rfl) (Nat.le_of_ble_eq_true rfl) (Nat.le_of_ble_eq_true rfl) (c1 := 2) (s1 := 24) (n1 := 129) rfl rfl rfl dX9_init_35 (fun H w => ?_)
  refine n_putF F w (a := 126) (C := RX9) (T := TX9) (N := 6) (ci := 9) (k := 5) (x := .ref (B + 128)) (ty := .array .int) (fs1 := [.int 0, .int 0, .int 0, .int 0, .ref (B + 127), .ref (B + 128)]) tyX9 tyX9_ok nmX9 (by decide) ((up_ne (by decide)).trans up_at) rfl rfl inT9 (by decide) rfl tb_6 rfl hin rfl (by decide +kernel) rfl rfl (Nat.le_of_ble_eq_true rfl) dX9_init_37 (fun H locs w => ?_)
  exact n_end F w hr hlocks dX9_init_40
set_option maxRecDepth 8000 in
theorem n_X9_init_49 {l : Launch} {D : va_G} {B : Nat} {cy : Nat → ClassId} {E : Nat → va_E} (h0 : E 129 = .inr (9, [.int 0, .int 0, .int 0, .int 0, .null, .null])) : Cn l D B cy yX9_init cX9_init 1 1 12 2 24 [.ref (B + 129)] 130 E 132 (va_up (va_up (va_up (va_up E 130 (.inl (cy 2, 12, .inl (fun _ => 0)))) 129 (.inr (9, [.int 0, .int 0, .int 0, .int 0, .ref (B + 130), .null]))) 131 (.inl (cy 2, 12, .inl (fun _ => 0)))) 129 (.inr (9, [.int 0, .int 0, .int 0, .int 0, .ref (B + 130), .ref (B + 131)]))) := by
  refine n_start (by decide) (Nat.le_of_ble_eq_true rfl) rfl ?_
  intro p e s m below meth c ls F hr hlocks hin w hl
  have F : CallFix p m c cX9_init 1 s _ TB RX9 := F
  have hx := F.1
  have hb := F.2.1
  have hl : lv_has ls 1 [(0, .ref (B + 129))] := hl
  refine lv_aload_n hx hb dX9_init_0 rfl (lv_at hl 0 rfl) ?_
  refine n_obj F hl.1 tb_755 tb_723 tk_obj dX9_init_1 (Nat.le_of_ble_eq_true rfl) (Nat.le_of_ble_eq_true rfl) ?_
  refine lv_aload_n hx hb dX9_init_4 rfl (lv_at hl 0 rfl) ?_
  refine lv_iconst (v := 0) hx hb dX9_init_5 (by decide) ?_
  refine n_put F w (a := 129) (C := RX9) (T := TX9) (N := 6) (ci := 9) (k := 0) (x := .int 0) (ty := .int) (fs1 := [.int 0, .int 0, .int 0, .int 0, .null, .null]) tyX9 tyX9_ok nmX9 (by decide) (h0) rfl rfl inT9 (by decide) rfl tb_0 rfl (by decide +kernel) rfl rfl (Nat.le_of_ble_eq_true rfl) dX9_init_6 (fun H locs w => ?_)
  rw [up_same (h0)] at w
  refine lv_aload_n hx hb dX9_init_9 rfl (lv_at hl 0 rfl) ?_
  refine lv_iconst (v := 0) hx hb dX9_init_10 (by decide) ?_
  refine n_put F w (a := 129) (C := RX9) (T := TX9) (N := 6) (ci := 9) (k := 1) (x := .int 0) (ty := .int) (fs1 := [.int 0, .int 0, .int 0, .int 0, .null, .null]) tyX9 tyX9_ok nmX9 (by decide) (h0) rfl rfl inT9 (by decide) rfl tb_1 rfl (by decide +kernel) rfl rfl (Nat.le_of_ble_eq_true rfl) dX9_init_11 (fun H locs w => ?_)
  rw [up_same (h0)] at w
  refine lv_aload_n hx hb dX9_init_14 rfl (lv_at hl 0 rfl) ?_
  refine lv_iconst (v := 0) hx hb dX9_init_15 (by decide) ?_
  refine n_put F w (a := 129) (C := RX9) (T := TX9) (N := 6) (ci := 9) (k := 2) (x := .int 0) (ty := .int) (fs1 := [.int 0, .int 0, .int 0, .int 0, .null, .null]) tyX9 tyX9_ok nmX9 (by decide) (h0) rfl rfl inT9 (by decide) rfl tb_11 rfl (by decide +kernel) rfl rfl (Nat.le_of_ble_eq_true rfl) dX9_init_16 (fun H locs w => ?_)
  rw [up_same (h0)] at w
  refine lv_aload_n hx hb dX9_init_19 rfl (lv_at hl 0 rfl) ?_
  refine lv_iconst (v := 0) hx hb dX9_init_20 (by decide) ?_
  refine n_put F w (a := 129) (C := RX9) (T := TX9) (N := 6) (ci := 9) (k := 3) (x := .int 0) (ty := .int) (fs1 := [.int 0, .int 0, .int 0, .int 0, .null, .null]) tyX9 tyX9_ok nmX9 (by decide) (h0) rfl rfl inT9 (by decide) rfl tb_12 rfl (by decide +kernel) rfl rfl (Nat.le_of_ble_eq_true rfl) dX9_init_21 (fun H locs w => ?_)
  rw [up_same (h0)] at w
  refine lv_aload_n hx hb dX9_init_24 rfl (lv_at hl 0 rfl) ?_
  refine lv_bipush (v := 12) hx hb dX9_init_25 (by decide) ?_
  refine n_newa F w (atype := .int) (ty := .int) (t := 2) (N := 12) (cA := cy 2) (a0 := (12, .inl (fun _ => 0))) tb_741 rfl (fun _ h => h) rfl (fun _ => rfl) (by decide) (by decide) (Nat.le_of_ble_eq_true rfl) (Nat.le_of_ble_eq_true rfl) (Nat.le_of_ble_eq_true rfl) (c1 := 1) (s1 := 12) (n1 := 131) rfl rfl rfl dX9_init_27 (fun H w => ?_)
  refine n_putF F w (a := 129) (C := RX9) (T := TX9) (N := 6) (ci := 9) (k := 4) (x := .ref (B + 130)) (ty := .array .int) (fs1 := [.int 0, .int 0, .int 0, .int 0, .ref (B + 130), .null]) tyX9 tyX9_ok nmX9 (by decide) ((up_ne (by decide)).trans h0) rfl rfl inT9 (by decide) rfl tb_7 rfl hin rfl (by decide +kernel) rfl rfl (Nat.le_of_ble_eq_true rfl) dX9_init_29 (fun H locs w => ?_)
  refine lv_aload_n hx hb dX9_init_32 rfl (lv_at hl 0 rfl) ?_
  refine lv_bipush (v := 12) hx hb dX9_init_33 (by decide) ?_
  refine n_newa F w (atype := .int) (ty := .int) (t := 2) (N := 12) (cA := cy 2) (a0 := (12, .inl (fun _ => 0))) tb_741 rfl (fun _ h => h) rfl (fun _ => rfl) (by decide) (by decide) (Nat.le_of_ble_eq_true rfl) (Nat.le_of_ble_eq_true rfl) (Nat.le_of_ble_eq_true rfl) (c1 := 2) (s1 := 24) (n1 := 132) rfl rfl rfl dX9_init_35 (fun H w => ?_)
  refine n_putF F w (a := 129) (C := RX9) (T := TX9) (N := 6) (ci := 9) (k := 5) (x := .ref (B + 131)) (ty := .array .int) (fs1 := [.int 0, .int 0, .int 0, .int 0, .ref (B + 130), .ref (B + 131)]) tyX9 tyX9_ok nmX9 (by decide) ((up_ne (by decide)).trans up_at) rfl rfl inT9 (by decide) rfl tb_6 rfl hin rfl (by decide +kernel) rfl rfl (Nat.le_of_ble_eq_true rfl) dX9_init_37 (fun H locs w => ?_)
  exact n_end F w hr hlocks dX9_init_40
set_option maxRecDepth 8000 in
theorem n_X9_init_50 {l : Launch} {D : va_G} {B : Nat} {cy : Nat → ClassId} {E : Nat → va_E} (h0 : E 132 = .inr (9, [.int 0, .int 0, .int 0, .int 0, .null, .null])) : Cn l D B cy yX9_init cX9_init 1 1 12 2 24 [.ref (B + 132)] 133 E 135 (va_up (va_up (va_up (va_up E 133 (.inl (cy 2, 12, .inl (fun _ => 0)))) 132 (.inr (9, [.int 0, .int 0, .int 0, .int 0, .ref (B + 133), .null]))) 134 (.inl (cy 2, 12, .inl (fun _ => 0)))) 132 (.inr (9, [.int 0, .int 0, .int 0, .int 0, .ref (B + 133), .ref (B + 134)]))) := by
  refine n_start (by decide) (Nat.le_of_ble_eq_true rfl) rfl ?_
  intro p e s m below meth c ls F hr hlocks hin w hl
  have F : CallFix p m c cX9_init 1 s _ TB RX9 := F
  have hx := F.1
  have hb := F.2.1
  have hl : lv_has ls 1 [(0, .ref (B + 132))] := hl
  refine lv_aload_n hx hb dX9_init_0 rfl (lv_at hl 0 rfl) ?_
  refine n_obj F hl.1 tb_755 tb_723 tk_obj dX9_init_1 (Nat.le_of_ble_eq_true rfl) (Nat.le_of_ble_eq_true rfl) ?_
  refine lv_aload_n hx hb dX9_init_4 rfl (lv_at hl 0 rfl) ?_
  refine lv_iconst (v := 0) hx hb dX9_init_5 (by decide) ?_
  refine n_put F w (a := 132) (C := RX9) (T := TX9) (N := 6) (ci := 9) (k := 0) (x := .int 0) (ty := .int) (fs1 := [.int 0, .int 0, .int 0, .int 0, .null, .null]) tyX9 tyX9_ok nmX9 (by decide) (h0) rfl rfl inT9 (by decide) rfl tb_0 rfl (by decide +kernel) rfl rfl (Nat.le_of_ble_eq_true rfl) dX9_init_6 (fun H locs w => ?_)
  rw [up_same (h0)] at w
  refine lv_aload_n hx hb dX9_init_9 rfl (lv_at hl 0 rfl) ?_
  refine lv_iconst (v := 0) hx hb dX9_init_10 (by decide) ?_
  refine n_put F w (a := 132) (C := RX9) (T := TX9) (N := 6) (ci := 9) (k := 1) (x := .int 0) (ty := .int) (fs1 := [.int 0, .int 0, .int 0, .int 0, .null, .null]) tyX9 tyX9_ok nmX9 (by decide) (h0) rfl rfl inT9 (by decide) rfl tb_1 rfl (by decide +kernel) rfl rfl (Nat.le_of_ble_eq_true rfl) dX9_init_11 (fun H locs w => ?_)
  rw [up_same (h0)] at w
  refine lv_aload_n hx hb dX9_init_14 rfl (lv_at hl 0 rfl) ?_
  refine lv_iconst (v := 0) hx hb dX9_init_15 (by decide) ?_
  refine n_put F w (a := 132) (C := RX9) (T := TX9) (N := 6) (ci := 9) (k := 2) (x := .int 0) (ty := .int) (fs1 := [.int 0, .int 0, .int 0, .int 0, .null, .null]) tyX9 tyX9_ok nmX9 (by decide) (h0) rfl rfl inT9 (by decide) rfl tb_11 rfl (by decide +kernel) rfl rfl (Nat.le_of_ble_eq_true rfl) dX9_init_16 (fun H locs w => ?_)
  rw [up_same (h0)] at w
  refine lv_aload_n hx hb dX9_init_19 rfl (lv_at hl 0 rfl) ?_
  refine lv_iconst (v := 0) hx hb dX9_init_20 (by decide) ?_
  refine n_put F w (a := 132) (C := RX9) (T := TX9) (N := 6) (ci := 9) (k := 3) (x := .int 0) (ty := .int) (fs1 := [.int 0, .int 0, .int 0, .int 0, .null, .null]) tyX9 tyX9_ok nmX9 (by decide) (h0) rfl rfl inT9 (by decide) rfl tb_12 rfl (by decide +kernel) rfl rfl (Nat.le_of_ble_eq_true rfl) dX9_init_21 (fun H locs w => ?_)
  rw [up_same (h0)] at w
  refine lv_aload_n hx hb dX9_init_24 rfl (lv_at hl 0 rfl) ?_
  refine lv_bipush (v := 12) hx hb dX9_init_25 (by decide) ?_
  refine n_newa F w (atype := .int) (ty := .int) (t := 2) (N := 12) (cA := cy 2) (a0 := (12, .inl (fun _ => 0))) tb_741 rfl (fun _ h => h) rfl (fun _ => rfl) (by decide) (by decide) (Nat.le_of_ble_eq_true rfl) (Nat.le_of_ble_eq_true rfl) (Nat.le_of_ble_eq_true rfl) (c1 := 1) (s1 := 12) (n1 := 134) rfl rfl rfl dX9_init_27 (fun H w => ?_)
  refine n_putF F w (a := 132) (C := RX9) (T := TX9) (N := 6) (ci := 9) (k := 4) (x := .ref (B + 133)) (ty := .array .int) (fs1 := [.int 0, .int 0, .int 0, .int 0, .ref (B + 133), .null]) tyX9 tyX9_ok nmX9 (by decide) ((up_ne (by decide)).trans h0) rfl rfl inT9 (by decide) rfl tb_7 rfl hin rfl (by decide +kernel) rfl rfl (Nat.le_of_ble_eq_true rfl) dX9_init_29 (fun H locs w => ?_)
  refine lv_aload_n hx hb dX9_init_32 rfl (lv_at hl 0 rfl) ?_
  refine lv_bipush (v := 12) hx hb dX9_init_33 (by decide) ?_
  refine n_newa F w (atype := .int) (ty := .int) (t := 2) (N := 12) (cA := cy 2) (a0 := (12, .inl (fun _ => 0))) tb_741 rfl (fun _ h => h) rfl (fun _ => rfl) (by decide) (by decide) (Nat.le_of_ble_eq_true rfl) (Nat.le_of_ble_eq_true rfl) (Nat.le_of_ble_eq_true rfl) (c1 := 2) (s1 := 24) (n1 := 135) rfl rfl rfl dX9_init_35 (fun H w => ?_)
  refine n_putF F w (a := 132) (C := RX9) (T := TX9) (N := 6) (ci := 9) (k := 5) (x := .ref (B + 134)) (ty := .array .int) (fs1 := [.int 0, .int 0, .int 0, .int 0, .ref (B + 133), .ref (B + 134)]) tyX9 tyX9_ok nmX9 (by decide) ((up_ne (by decide)).trans up_at) rfl rfl inT9 (by decide) rfl tb_6 rfl hin rfl (by decide +kernel) rfl rfl (Nat.le_of_ble_eq_true rfl) dX9_init_37 (fun H locs w => ?_)
  exact n_end F w hr hlocks dX9_init_40
theorem dX3_init_81 : decode cX3_init 81 = .ok (.return_, 1) := dq0 kk_177 (by decide +kernel)
set_option maxRecDepth 8000 in
theorem n_X3_init_51 {l : Launch} {D : va_G} {B : Nat} {cy : Nat → ClassId} {E : Nat → va_E} (h0 : E 109 = .inr (3, [.int 0, .int 0, .int 0, .null, .null, .null, .null])) : Cn l D B cy yX3_init cX3_init 2 2 32 25 1663 [.ref (B + 109)] 110 E 135 (va_up (va_up (va_up (va_up (va_up (va_up (va_up (va_up (va_up (va_up (va_up (va_up (va_up (va_up (va_up (va_up (va_up (va_up (va_up (va_up (va_up (va_up (va_up (va_up (va_up (va_up (va_up (va_up (va_up (va_up (va_up (va_up (va_up (va_up (va_up (va_up (va_up (va_up (va_up (va_up (va_up (va_up (va_up (va_up (va_up (va_up (va_up (va_up (va_up (va_up E 110 (.inl (cy 2, 6, .inl (fun _ => 0)))) 109 (.inr (3, [.int 0, .int 0, .int 0, .ref (B + 110), .null, .null, .null]))) 111 (.inl (cy 5, 7, .inr (.inr (.inr (.inr (fun _ => none))))))) 109 (.inr (3, [.int 0, .int 0, .int 0, .ref (B + 110), .ref (B + 111), .null, .null]))) 112 (.inl (cy 3, 720, .inr (.inl (fun _ => 0))))) 109 (.inr (3, [.int 0, .int 0, .int 0, .ref (B + 110), .ref (B + 111), .ref (B + 112), .null]))) 113 (.inl (cy 3, 720, .inr (.inl (fun _ => 0))))) 109 (.inr (3, [.int 0, .int 0, .int 0, .ref (B + 110), .ref (B + 111), .ref (B + 112), .ref (B + 113)]))) 114 (.inr (9, [.int 0, .int 0, .int 0, .int 0, .null, .null]))) 115 (.inl (cy 2, 12, .inl (fun _ => 0)))) 114 (.inr (9, [.int 0, .int 0, .int 0, .int 0, .ref (B + 115), .null]))) 116 (.inl (cy 2, 12, .inl (fun _ => 0)))) 114 (.inr (9, [.int 0, .int 0, .int 0, .int 0, .ref (B + 115), .ref (B + 116)]))) 111 (.inl (cy 5, 7, .inr (.inr (.inr (.inr (va_up (fun _ => none) 0 (some (B + 114))))))))) 117 (.inr (9, [.int 0, .int 0, .int 0, .int 0, .null, .null]))) 118 (.inl (cy 2, 12, .inl (fun _ => 0)))) 117 (.inr (9, [.int 0, .int 0, .int 0, .int 0, .ref (B + 118), .null]))) 119 (.inl (cy 2, 12, .inl (fun _ => 0)))) 117 (.inr (9, [.int 0, .int 0, .int 0, .int 0, .ref (B + 118), .ref (B + 119)]))) 111 (.inl (cy 5, 7, .inr (.inr (.inr (.inr (va_up (va_up (fun _ => none) 0 (some (B + 114))) 1 (some (B + 117))))))))) 120 (.inr (9, [.int 0, .int 0, .int 0, .int 0, .null, .null]))) 121 (.inl (cy 2, 12, .inl (fun _ => 0)))) 120 (.inr (9, [.int 0, .int 0, .int 0, .int 0, .ref (B + 121), .null]))) 122 (.inl (cy 2, 12, .inl (fun _ => 0)))) 120 (.inr (9, [.int 0, .int 0, .int 0, .int 0, .ref (B + 121), .ref (B + 122)]))) 111 (.inl (cy 5, 7, .inr (.inr (.inr (.inr (va_up (va_up (va_up (fun _ => none) 0 (some (B + 114))) 1 (some (B + 117))) 2 (some (B + 120))))))))) 123 (.inr (9, [.int 0, .int 0, .int 0, .int 0, .null, .null]))) 124 (.inl (cy 2, 12, .inl (fun _ => 0)))) 123 (.inr (9, [.int 0, .int 0, .int 0, .int 0, .ref (B + 124), .null]))) 125 (.inl (cy 2, 12, .inl (fun _ => 0)))) 123 (.inr (9, [.int 0, .int 0, .int 0, .int 0, .ref (B + 124), .ref (B + 125)]))) 111 (.inl (cy 5, 7, .inr (.inr (.inr (.inr (va_up (va_up (va_up (va_up (fun _ => none) 0 (some (B + 114))) 1 (some (B + 117))) 2 (some (B + 120))) 3 (some (B + 123))))))))) 126 (.inr (9, [.int 0, .int 0, .int 0, .int 0, .null, .null]))) 127 (.inl (cy 2, 12, .inl (fun _ => 0)))) 126 (.inr (9, [.int 0, .int 0, .int 0, .int 0, .ref (B + 127), .null]))) 128 (.inl (cy 2, 12, .inl (fun _ => 0)))) 126 (.inr (9, [.int 0, .int 0, .int 0, .int 0, .ref (B + 127), .ref (B + 128)]))) 111 (.inl (cy 5, 7, .inr (.inr (.inr (.inr (va_up (va_up (va_up (va_up (va_up (fun _ => none) 0 (some (B + 114))) 1 (some (B + 117))) 2 (some (B + 120))) 3 (some (B + 123))) 4 (some (B + 126))))))))) 129 (.inr (9, [.int 0, .int 0, .int 0, .int 0, .null, .null]))) 130 (.inl (cy 2, 12, .inl (fun _ => 0)))) 129 (.inr (9, [.int 0, .int 0, .int 0, .int 0, .ref (B + 130), .null]))) 131 (.inl (cy 2, 12, .inl (fun _ => 0)))) 129 (.inr (9, [.int 0, .int 0, .int 0, .int 0, .ref (B + 130), .ref (B + 131)]))) 111 (.inl (cy 5, 7, .inr (.inr (.inr (.inr (va_up (va_up (va_up (va_up (va_up (va_up (fun _ => none) 0 (some (B + 114))) 1 (some (B + 117))) 2 (some (B + 120))) 3 (some (B + 123))) 4 (some (B + 126))) 5 (some (B + 129))))))))) 132 (.inr (9, [.int 0, .int 0, .int 0, .int 0, .null, .null]))) 133 (.inl (cy 2, 12, .inl (fun _ => 0)))) 132 (.inr (9, [.int 0, .int 0, .int 0, .int 0, .ref (B + 133), .null]))) 134 (.inl (cy 2, 12, .inl (fun _ => 0)))) 132 (.inr (9, [.int 0, .int 0, .int 0, .int 0, .ref (B + 133), .ref (B + 134)]))) 111 (.inl (cy 5, 7, .inr (.inr (.inr (.inr (va_up (va_up (va_up (va_up (va_up (va_up (va_up (fun _ => none) 0 (some (B + 114))) 1 (some (B + 117))) 2 (some (B + 120))) 3 (some (B + 123))) 4 (some (B + 126))) 5 (some (B + 129))) 6 (some (B + 132))))))))) := by
  refine n_start (by decide) (Nat.le_of_ble_eq_true rfl) rfl ?_
  intro p e s m below meth c ls F hr hlocks hin w hl
  have F : CallFix p m c cX3_init 2 s _ TB RX3 := F
  have hx := F.1
  have hb := F.2.1
  have hl : lv_has ls 2 [(0, .ref (B + 109))] := hl
  refine lv_aload_n hx hb dX3_init_0 rfl (lv_at hl 0 rfl) ?_
  refine n_obj F hl.1 tb_768 tb_723 tk_obj dX3_init_1 (Nat.le_of_ble_eq_true rfl) (Nat.le_of_ble_eq_true rfl) ?_
  refine lv_aload_n hx hb dX3_init_4 rfl (lv_at hl 0 rfl) ?_
  refine lv_iconst (v := 0) hx hb dX3_init_5 (by decide) ?_
  refine n_put F w (a := 109) (C := RX3) (T := TX3) (N := 7) (ci := 3) (k := 0) (x := .int 0) (ty := .boolean) (fs1 := [.int 0, .int 0, .int 0, .null, .null, .null, .null]) tyX3 tyX3_ok nmX3 (by decide) (h0) rfl rfl inT3 (by decide) rfl tb_229 rfl (by decide +kernel) rfl rfl (Nat.le_of_ble_eq_true rfl) dX3_init_6 (fun H locs w => ?_)
  rw [up_same (h0)] at w
  refine lv_aload_n hx hb dX3_init_9 rfl (lv_at hl 0 rfl) ?_
  refine lv_iconst (v := 0) hx hb dX3_init_10 (by decide) ?_
  refine n_put F w (a := 109) (C := RX3) (T := TX3) (N := 7) (ci := 3) (k := 1) (x := .int 0) (ty := .int) (fs1 := [.int 0, .int 0, .int 0, .null, .null, .null, .null]) tyX3 tyX3_ok nmX3 (by decide) (h0) rfl rfl inT3 (by decide) rfl tb_207 rfl (by decide +kernel) rfl rfl (Nat.le_of_ble_eq_true rfl) dX3_init_11 (fun H locs w => ?_)
  rw [up_same (h0)] at w
  refine lv_aload_n hx hb dX3_init_14 rfl (lv_at hl 0 rfl) ?_
  refine lv_iconst (v := 0) hx hb dX3_init_15 (by decide) ?_
  refine n_put F w (a := 109) (C := RX3) (T := TX3) (N := 7) (ci := 3) (k := 2) (x := .int 0) (ty := .int) (fs1 := [.int 0, .int 0, .int 0, .null, .null, .null, .null]) tyX3 tyX3_ok nmX3 (by decide) (h0) rfl rfl inT3 (by decide) rfl tb_222 rfl (by decide +kernel) rfl rfl (Nat.le_of_ble_eq_true rfl) dX3_init_16 (fun H locs w => ?_)
  rw [up_same (h0)] at w
  refine lv_aload_n hx hb dX3_init_19 rfl (lv_at hl 0 rfl) ?_
  refine lv_bipush (v := 6) hx hb dX3_init_20 (by decide) ?_
  refine n_newa F w (atype := .int) (ty := .int) (t := 2) (N := 6) (cA := cy 2) (a0 := (6, .inl (fun _ => 0))) tb_741 rfl (fun _ h => h) rfl (fun _ => rfl) (by decide) (by decide) (Nat.le_of_ble_eq_true rfl) (Nat.le_of_ble_eq_true rfl) (Nat.le_of_ble_eq_true rfl) (c1 := 1) (s1 := 6) (n1 := 111) rfl rfl rfl dX3_init_22 (fun H w => ?_)
  refine n_putF F w (a := 109) (C := RX3) (T := TX3) (N := 7) (ci := 3) (k := 3) (x := .ref (B + 110)) (ty := .array .int) (fs1 := [.int 0, .int 0, .int 0, .ref (B + 110), .null, .null, .null]) tyX3 tyX3_ok nmX3 (by decide) ((up_ne (by decide)).trans h0) rfl rfl inT3 (by decide) rfl tb_210 rfl hin rfl (by decide +kernel) rfl rfl (Nat.le_of_ble_eq_true rfl) dX3_init_24 (fun H locs w => ?_)
  refine lv_aload_n hx hb dX3_init_27 rfl (lv_at hl 0 rfl) ?_
  refine lv_bipush (v := 7) hx hb dX3_init_28 (by decide) ?_
  refine n_newq F w (t := 5) (N := 7) (cA := cy 5) (C := "ToneLines$Word") w.2.2.2.2.2.1.2 tb_769 rfl (by decide) (by decide) (Nat.le_of_ble_eq_true rfl) (Nat.le_of_ble_eq_true rfl) (Nat.le_of_ble_eq_true rfl) (c1 := 2) (s1 := 13) (n1 := 112) rfl rfl rfl dX3_init_30 (fun H w => ?_)
  refine n_putF F w (a := 109) (C := RX3) (T := TX3) (N := 7) (ci := 3) (k := 4) (x := .ref (B + 111)) (ty := .array (.object "ToneLines$Word")) (fs1 := [.int 0, .int 0, .int 0, .ref (B + 110), .ref (B + 111), .null, .null]) tyX3 tyX3_ok nmX3 (by decide) ((up_ne (by decide)).trans up_at) rfl rfl inT3 (by decide) rfl tb_219 rfl hin rfl (by decide +kernel) rfl rfl (Nat.le_of_ble_eq_true rfl) dX3_init_33 (fun H locs w => ?_)
  refine lv_aload_n hx hb dX3_init_36 rfl (lv_at hl 0 rfl) ?_
  refine lv_sipush (v := 720) hx hb dX3_init_37 (by decide) ?_
  refine n_newa F w (atype := .long) (ty := .long) (t := 3) (N := 720) (cA := cy 3) (a0 := (720, .inr (.inl (fun _ => 0)))) tb_770 rfl (fun _ h => h) rfl (fun _ => rfl) (by decide) (by decide) (Nat.le_of_ble_eq_true rfl) (Nat.le_of_ble_eq_true rfl) (Nat.le_of_ble_eq_true rfl) (c1 := 3) (s1 := 733) (n1 := 113) rfl rfl rfl dX3_init_40 (fun H w => ?_)
  refine n_putF F w (a := 109) (C := RX3) (T := TX3) (N := 7) (ci := 3) (k := 5) (x := .ref (B + 112)) (ty := .array .long) (fs1 := [.int 0, .int 0, .int 0, .ref (B + 110), .ref (B + 111), .ref (B + 112), .null]) tyX3 tyX3_ok nmX3 (by decide) ((up_ne (by decide)).trans up_at) rfl rfl inT3 (by decide) rfl tb_208 rfl hin rfl (by decide +kernel) rfl rfl (Nat.le_of_ble_eq_true rfl) dX3_init_42 (fun H locs w => ?_)
  refine lv_aload_n hx hb dX3_init_45 rfl (lv_at hl 0 rfl) ?_
  refine lv_sipush (v := 720) hx hb dX3_init_46 (by decide) ?_
  refine n_newa F w (atype := .long) (ty := .long) (t := 3) (N := 720) (cA := cy 3) (a0 := (720, .inr (.inl (fun _ => 0)))) tb_770 rfl (fun _ h => h) rfl (fun _ => rfl) (by decide) (by decide) (Nat.le_of_ble_eq_true rfl) (Nat.le_of_ble_eq_true rfl) (Nat.le_of_ble_eq_true rfl) (c1 := 4) (s1 := 1453) (n1 := 114) rfl rfl rfl dX3_init_49 (fun H w => ?_)
  refine n_putF F w (a := 109) (C := RX3) (T := TX3) (N := 7) (ci := 3) (k := 6) (x := .ref (B + 113)) (ty := .array .long) (fs1 := [.int 0, .int 0, .int 0, .ref (B + 110), .ref (B + 111), .ref (B + 112), .ref (B + 113)]) tyX3 tyX3_ok nmX3 (by decide) ((up_ne (by decide)).trans up_at) rfl rfl inT3 (by decide) rfl tb_209 rfl hin rfl (by decide +kernel) rfl rfl (Nat.le_of_ble_eq_true rfl) dX3_init_51 (fun H locs w => ?_)
  refine lv_iconst (v := 0) hx hb dX3_init_54 (by decide) ?_
  refine lv_istore_n (lv' := [(1, .int 0), (0, .ref (B + 109))]) hx hb dX3_init_55 rfl hl (by decide) rfl (fun ls hl => ?_)
  refine lv_iload_n hx hb dX3_init_56 rfl (lv_at hl 0 rfl) ?_
  refine lv_bipush (v := 6) hx hb dX3_init_57 (by decide) ?_
  refine lv_icmp_gt (tgt := 81) hx hb dX3_init_59 (by decide) (fun c1 => absurd c1 (by decide)) (fun _ => ?_)
  refine lv_aload_n hx hb dX3_init_62 rfl (lv_at hl 1 rfl) ?_
  refine n_get F w (a := 109) (C := RX3) (T := TX3) (N := 7) (ci := 3) (k := 4) (by decide) (up_at) rfl inT3 (by decide) rfl tb_219 rfl dX3_init_63 ?_
  refine lv_iload_n hx hb dX3_init_66 rfl (lv_at hl 0 rfl) ?_
  refine n_new F w (C := RX9) (T := TX9) (N := 6) (ci := 9) (fs := [.int 0, .int 0, .int 0, .int 0, .null, .null]) tyX9 tyX9_ok inT9 tb_769 tb_754 tb_5 rfl nf_9 (Nat.le_of_ble_eq_true rfl) (Nat.le_of_ble_eq_true rfl) (c1 := 5) (s1 := 1459) (n1 := 115) rfl rfl rfl dX3_init_67 (fun H w => ?_)
  refine lv_dup hx hb dX3_init_70 rfl ?_
  refine n_callN F w (b := 114) (As := []) (rest := [.ref (B + 114), .int 0, .ref (B + 111)]) (n_X9_init_44 (up_at)) gc_X9_init rfl tb_5 (by decide) tb_756 hs_X9_init ⟨(Nat.le_of_ble_eq_true rfl), (Nat.le_of_ble_eq_true rfl)⟩ hl.1 rfl (Nat.le_of_ble_eq_true rfl) ⟨(Nat.le_of_ble_eq_true rfl), (Nat.le_of_ble_eq_true rfl)⟩ (k1 := 7) (k2 := 1483) rfl rfl dX3_init_71 (fun H locs w => ?_)
  refine n_ast F w (a := 111) (v := 114) (j := 0) (t := 5) (ci := 9) (by decide) (by decide) ((up_ne (by decide)).trans ((up_ne (by decide)).trans ((up_ne (by decide)).trans ((up_ne (by decide)).trans ((up_ne (by decide)).trans ((up_ne (by decide)).trans ((up_ne (by decide)).trans ((up_ne (by decide)).trans ((up_ne (by decide)).trans ((up_ne (by decide)).trans up_at)))))))))) rfl (up_at) rfl ⟨by decide, by decide⟩ (by decide) dX3_init_74 (fun H locs w => ?_)
  refine lv_iinc (v := 1) (lv' := [(1, .int 1), (0, .ref (B + 109))]) hx hb dX3_init_75 hl (k := 0) rfl (by decide) (by decide) rfl (fun ls hl => ?_)
  refine lv_goto (tgt := 56) hx hb dX3_init_78 (by decide) ?_
  refine lv_iload_n hx hb dX3_init_56 rfl (lv_at hl 0 rfl) ?_
  refine lv_bipush (v := 6) hx hb dX3_init_57 (by decide) ?_
  refine lv_icmp_gt (tgt := 81) hx hb dX3_init_59 (by decide) (fun c1 => absurd c1 (by decide)) (fun _ => ?_)
  refine lv_aload_n hx hb dX3_init_62 rfl (lv_at hl 1 rfl) ?_
  refine n_get F w (a := 109) (C := RX3) (T := TX3) (N := 7) (ci := 3) (k := 4) (by decide) ((up_ne (by decide)).trans ((up_ne (by decide)).trans ((up_ne (by decide)).trans ((up_ne (by decide)).trans ((up_ne (by decide)).trans ((up_ne (by decide)).trans up_at)))))) rfl inT3 (by decide) rfl tb_219 rfl dX3_init_63 ?_
  refine lv_iload_n hx hb dX3_init_66 rfl (lv_at hl 0 rfl) ?_
  refine n_new F w (C := RX9) (T := TX9) (N := 6) (ci := 9) (fs := [.int 0, .int 0, .int 0, .int 0, .null, .null]) tyX9 tyX9_ok inT9 tb_769 tb_754 tb_5 rfl nf_9 (Nat.le_of_ble_eq_true rfl) (Nat.le_of_ble_eq_true rfl) (c1 := 8) (s1 := 1489) (n1 := 118) rfl rfl rfl dX3_init_67 (fun H w => ?_)
  refine lv_dup hx hb dX3_init_70 rfl ?_
  refine n_callN F w (b := 117) (As := []) (rest := [.ref (B + 117), .int 1, .ref (B + 111)]) (n_X9_init_45 (up_at)) gc_X9_init rfl tb_5 (by decide) tb_756 hs_X9_init ⟨(Nat.le_of_ble_eq_true rfl), (Nat.le_of_ble_eq_true rfl)⟩ hl.1 rfl (Nat.le_of_ble_eq_true rfl) ⟨(Nat.le_of_ble_eq_true rfl), (Nat.le_of_ble_eq_true rfl)⟩ (k1 := 10) (k2 := 1513) rfl rfl dX3_init_71 (fun H locs w => ?_)
  refine n_ast F w (a := 111) (v := 117) (j := 1) (t := 5) (ci := 9) (by decide) (by decide) ((up_ne (by decide)).trans ((up_ne (by decide)).trans ((up_ne (by decide)).trans ((up_ne (by decide)).trans ((up_ne (by decide)).trans up_at))))) rfl (up_at) rfl ⟨by decide, by decide⟩ (by decide) dX3_init_74 (fun H locs w => ?_)
  refine lv_iinc (v := 2) (lv' := [(1, .int 2), (0, .ref (B + 109))]) hx hb dX3_init_75 hl (k := 0) rfl (by decide) (by decide) rfl (fun ls hl => ?_)
  refine lv_goto (tgt := 56) hx hb dX3_init_78 (by decide) ?_
  refine lv_iload_n hx hb dX3_init_56 rfl (lv_at hl 0 rfl) ?_
  refine lv_bipush (v := 6) hx hb dX3_init_57 (by decide) ?_
  refine lv_icmp_gt (tgt := 81) hx hb dX3_init_59 (by decide) (fun c1 => absurd c1 (by decide)) (fun _ => ?_)
  refine lv_aload_n hx hb dX3_init_62 rfl (lv_at hl 1 rfl) ?_
  refine n_get F w (a := 109) (C := RX3) (T := TX3) (N := 7) (ci := 3) (k := 4) (by decide) ((up_ne (by decide)).trans ((up_ne (by decide)).trans ((up_ne (by decide)).trans ((up_ne (by decide)).trans ((up_ne (by decide)).trans ((up_ne (by decide)).trans ((up_ne (by decide)).trans ((up_ne (by decide)).trans ((up_ne (by decide)).trans ((up_ne (by decide)).trans ((up_ne (by decide)).trans ((up_ne (by decide)).trans up_at)))))))))))) rfl inT3 (by decide) rfl tb_219 rfl dX3_init_63 ?_
  refine lv_iload_n hx hb dX3_init_66 rfl (lv_at hl 0 rfl) ?_
  refine n_new F w (C := RX9) (T := TX9) (N := 6) (ci := 9) (fs := [.int 0, .int 0, .int 0, .int 0, .null, .null]) tyX9 tyX9_ok inT9 tb_769 tb_754 tb_5 rfl nf_9 (Nat.le_of_ble_eq_true rfl) (Nat.le_of_ble_eq_true rfl) (c1 := 11) (s1 := 1519) (n1 := 121) rfl rfl rfl dX3_init_67 (fun H w => ?_)
  refine lv_dup hx hb dX3_init_70 rfl ?_
  refine n_callN F w (b := 120) (As := []) (rest := [.ref (B + 120), .int 2, .ref (B + 111)]) (n_X9_init_46 (up_at)) gc_X9_init rfl tb_5 (by decide) tb_756 hs_X9_init ⟨(Nat.le_of_ble_eq_true rfl), (Nat.le_of_ble_eq_true rfl)⟩ hl.1 rfl (Nat.le_of_ble_eq_true rfl) ⟨(Nat.le_of_ble_eq_true rfl), (Nat.le_of_ble_eq_true rfl)⟩ (k1 := 13) (k2 := 1543) rfl rfl dX3_init_71 (fun H locs w => ?_)
  refine n_ast F w (a := 111) (v := 120) (j := 2) (t := 5) (ci := 9) (by decide) (by decide) ((up_ne (by decide)).trans ((up_ne (by decide)).trans ((up_ne (by decide)).trans ((up_ne (by decide)).trans ((up_ne (by decide)).trans up_at))))) rfl (up_at) rfl ⟨by decide, by decide⟩ (by decide) dX3_init_74 (fun H locs w => ?_)
  refine lv_iinc (v := 3) (lv' := [(1, .int 3), (0, .ref (B + 109))]) hx hb dX3_init_75 hl (k := 0) rfl (by decide) (by decide) rfl (fun ls hl => ?_)
  refine lv_goto (tgt := 56) hx hb dX3_init_78 (by decide) ?_
  refine lv_iload_n hx hb dX3_init_56 rfl (lv_at hl 0 rfl) ?_
  refine lv_bipush (v := 6) hx hb dX3_init_57 (by decide) ?_
  refine lv_icmp_gt (tgt := 81) hx hb dX3_init_59 (by decide) (fun c1 => absurd c1 (by decide)) (fun _ => ?_)
  refine lv_aload_n hx hb dX3_init_62 rfl (lv_at hl 1 rfl) ?_
  refine n_get F w (a := 109) (C := RX3) (T := TX3) (N := 7) (ci := 3) (k := 4) (by decide) ((up_ne (by decide)).trans ((up_ne (by decide)).trans ((up_ne (by decide)).trans ((up_ne (by decide)).trans ((up_ne (by decide)).trans ((up_ne (by decide)).trans ((up_ne (by decide)).trans ((up_ne (by decide)).trans ((up_ne (by decide)).trans ((up_ne (by decide)).trans ((up_ne (by decide)).trans ((up_ne (by decide)).trans ((up_ne (by decide)).trans ((up_ne (by decide)).trans ((up_ne (by decide)).trans ((up_ne (by decide)).trans ((up_ne (by decide)).trans ((up_ne (by decide)).trans up_at)))))))))))))))))) rfl inT3 (by decide) rfl tb_219 rfl dX3_init_63 ?_
  refine lv_iload_n hx hb dX3_init_66 rfl (lv_at hl 0 rfl) ?_
  refine n_new F w (C := RX9) (T := TX9) (N := 6) (ci := 9) (fs := [.int 0, .int 0, .int 0, .int 0, .null, .null]) tyX9 tyX9_ok inT9 tb_769 tb_754 tb_5 rfl nf_9 (Nat.le_of_ble_eq_true rfl) (Nat.le_of_ble_eq_true rfl) (c1 := 14) (s1 := 1549) (n1 := 124) rfl rfl rfl dX3_init_67 (fun H w => ?_)
  refine lv_dup hx hb dX3_init_70 rfl ?_
  refine n_callN F w (b := 123) (As := []) (rest := [.ref (B + 123), .int 3, .ref (B + 111)]) (n_X9_init_47 (up_at)) gc_X9_init rfl tb_5 (by decide) tb_756 hs_X9_init ⟨(Nat.le_of_ble_eq_true rfl), (Nat.le_of_ble_eq_true rfl)⟩ hl.1 rfl (Nat.le_of_ble_eq_true rfl) ⟨(Nat.le_of_ble_eq_true rfl), (Nat.le_of_ble_eq_true rfl)⟩ (k1 := 16) (k2 := 1573) rfl rfl dX3_init_71 (fun H locs w => ?_)
  refine n_ast F w (a := 111) (v := 123) (j := 3) (t := 5) (ci := 9) (by decide) (by decide) ((up_ne (by decide)).trans ((up_ne (by decide)).trans ((up_ne (by decide)).trans ((up_ne (by decide)).trans ((up_ne (by decide)).trans up_at))))) rfl (up_at) rfl ⟨by decide, by decide⟩ (by decide) dX3_init_74 (fun H locs w => ?_)
  refine lv_iinc (v := 4) (lv' := [(1, .int 4), (0, .ref (B + 109))]) hx hb dX3_init_75 hl (k := 0) rfl (by decide) (by decide) rfl (fun ls hl => ?_)
  refine lv_goto (tgt := 56) hx hb dX3_init_78 (by decide) ?_
  refine lv_iload_n hx hb dX3_init_56 rfl (lv_at hl 0 rfl) ?_
  refine lv_bipush (v := 6) hx hb dX3_init_57 (by decide) ?_
  refine lv_icmp_gt (tgt := 81) hx hb dX3_init_59 (by decide) (fun c1 => absurd c1 (by decide)) (fun _ => ?_)
  refine lv_aload_n hx hb dX3_init_62 rfl (lv_at hl 1 rfl) ?_
  refine n_get F w (a := 109) (C := RX3) (T := TX3) (N := 7) (ci := 3) (k := 4) (by decide) ((up_ne (by decide)).trans ((up_ne (by decide)).trans ((up_ne (by decide)).trans ((up_ne (by decide)).trans ((up_ne (by decide)).trans ((up_ne (by decide)).trans ((up_ne (by decide)).trans ((up_ne (by decide)).trans ((up_ne (by decide)).trans ((up_ne (by decide)).trans ((up_ne (by decide)).trans ((up_ne (by decide)).trans ((up_ne (by decide)).trans ((up_ne (by decide)).trans ((up_ne (by decide)).trans ((up_ne (by decide)).trans ((up_ne (by decide)).trans ((up_ne (by decide)).trans ((up_ne (by decide)).trans ((up_ne (by decide)).trans ((up_ne (by decide)).trans ((up_ne (by decide)).trans ((up_ne (by decide)).trans ((up_ne (by decide)).trans up_at)))))))))))))))))))))))) rfl inT3 (by decide) rfl tb_219 rfl dX3_init_63 ?_
  refine lv_iload_n hx hb dX3_init_66 rfl (lv_at hl 0 rfl) ?_
  refine n_new F w (C := RX9) (T := TX9) (N := 6) (ci := 9) (fs := [.int 0, .int 0, .int 0, .int 0, .null, .null]) tyX9 tyX9_ok inT9 tb_769 tb_754 tb_5 rfl nf_9 (Nat.le_of_ble_eq_true rfl) (Nat.le_of_ble_eq_true rfl) (c1 := 17) (s1 := 1579) (n1 := 127) rfl rfl rfl dX3_init_67 (fun H w => ?_)
  refine lv_dup hx hb dX3_init_70 rfl ?_
  refine n_callN F w (b := 126) (As := []) (rest := [.ref (B + 126), .int 4, .ref (B + 111)]) (n_X9_init_48 (up_at)) gc_X9_init rfl tb_5 (by decide) tb_756 hs_X9_init ⟨(Nat.le_of_ble_eq_true rfl), (Nat.le_of_ble_eq_true rfl)⟩ hl.1 rfl (Nat.le_of_ble_eq_true rfl) ⟨(Nat.le_of_ble_eq_true rfl), (Nat.le_of_ble_eq_true rfl)⟩ (k1 := 19) (k2 := 1603) rfl rfl dX3_init_71 (fun H locs w => ?_)
  refine n_ast F w (a := 111) (v := 126) (j := 4) (t := 5) (ci := 9) (by decide) (by decide) ((up_ne (by decide)).trans ((up_ne (by decide)).trans ((up_ne (by decide)).trans ((up_ne (by decide)).trans ((up_ne (by decide)).trans up_at))))) rfl (up_at) rfl ⟨by decide, by decide⟩ (by decide) dX3_init_74 (fun H locs w => ?_)
  refine lv_iinc (v := 5) (lv' := [(1, .int 5), (0, .ref (B + 109))]) hx hb dX3_init_75 hl (k := 0) rfl (by decide) (by decide) rfl (fun ls hl => ?_)
  refine lv_goto (tgt := 56) hx hb dX3_init_78 (by decide) ?_
  refine lv_iload_n hx hb dX3_init_56 rfl (lv_at hl 0 rfl) ?_
  refine lv_bipush (v := 6) hx hb dX3_init_57 (by decide) ?_
  refine lv_icmp_gt (tgt := 81) hx hb dX3_init_59 (by decide) (fun c1 => absurd c1 (by decide)) (fun _ => ?_)
  refine lv_aload_n hx hb dX3_init_62 rfl (lv_at hl 1 rfl) ?_
  refine n_get F w (a := 109) (C := RX3) (T := TX3) (N := 7) (ci := 3) (k := 4) (by decide) ((up_ne (by decide)).trans ((up_ne (by decide)).trans ((up_ne (by decide)).trans ((up_ne (by decide)).trans ((up_ne (by decide)).trans ((up_ne (by decide)).trans ((up_ne (by decide)).trans ((up_ne (by decide)).trans ((up_ne (by decide)).trans ((up_ne (by decide)).trans ((up_ne (by decide)).trans ((up_ne (by decide)).trans ((up_ne (by decide)).trans ((up_ne (by decide)).trans ((up_ne (by decide)).trans ((up_ne (by decide)).trans ((up_ne (by decide)).trans ((up_ne (by decide)).trans ((up_ne (by decide)).trans ((up_ne (by decide)).trans ((up_ne (by decide)).trans ((up_ne (by decide)).trans ((up_ne (by decide)).trans ((up_ne (by decide)).trans ((up_ne (by decide)).trans ((up_ne (by decide)).trans ((up_ne (by decide)).trans ((up_ne (by decide)).trans ((up_ne (by decide)).trans ((up_ne (by decide)).trans up_at)))))))))))))))))))))))))))))) rfl inT3 (by decide) rfl tb_219 rfl dX3_init_63 ?_
  refine lv_iload_n hx hb dX3_init_66 rfl (lv_at hl 0 rfl) ?_
  refine n_new F w (C := RX9) (T := TX9) (N := 6) (ci := 9) (fs := [.int 0, .int 0, .int 0, .int 0, .null, .null]) tyX9 tyX9_ok inT9 tb_769 tb_754 tb_5 rfl nf_9 (Nat.le_of_ble_eq_true rfl) (Nat.le_of_ble_eq_true rfl) (c1 := 20) (s1 := 1609) (n1 := 130) rfl rfl rfl dX3_init_67 (fun H w => ?_)
  refine lv_dup hx hb dX3_init_70 rfl ?_
  refine n_callN F w (b := 129) (As := []) (rest := [.ref (B + 129), .int 5, .ref (B + 111)]) (n_X9_init_49 (up_at)) gc_X9_init rfl tb_5 (by decide) tb_756 hs_X9_init ⟨(Nat.le_of_ble_eq_true rfl), (Nat.le_of_ble_eq_true rfl)⟩ hl.1 rfl (Nat.le_of_ble_eq_true rfl) ⟨(Nat.le_of_ble_eq_true rfl), (Nat.le_of_ble_eq_true rfl)⟩ (k1 := 22) (k2 := 1633) rfl rfl dX3_init_71 (fun H locs w => ?_)
  refine n_ast F w (a := 111) (v := 129) (j := 5) (t := 5) (ci := 9) (by decide) (by decide) ((up_ne (by decide)).trans ((up_ne (by decide)).trans ((up_ne (by decide)).trans ((up_ne (by decide)).trans ((up_ne (by decide)).trans up_at))))) rfl (up_at) rfl ⟨by decide, by decide⟩ (by decide) dX3_init_74 (fun H locs w => ?_)
  refine lv_iinc (v := 6) (lv' := [(1, .int 6), (0, .ref (B + 109))]) hx hb dX3_init_75 hl (k := 0) rfl (by decide) (by decide) rfl (fun ls hl => ?_)
  refine lv_goto (tgt := 56) hx hb dX3_init_78 (by decide) ?_
  refine lv_iload_n hx hb dX3_init_56 rfl (lv_at hl 0 rfl) ?_
  refine lv_bipush (v := 6) hx hb dX3_init_57 (by decide) ?_
  refine lv_icmp_gt (tgt := 81) hx hb dX3_init_59 (by decide) (fun c1 => absurd c1 (by decide)) (fun _ => ?_)
  refine lv_aload_n hx hb dX3_init_62 rfl (lv_at hl 1 rfl) ?_
  refine n_get F w (a := 109) (C := RX3) (T := TX3) (N := 7) (ci := 3) (k := 4) (by decide) ((up_ne (by decide)).trans ((up_ne (by decide)).trans ((up_ne (by decide)).trans ((up_ne (by decide)).trans ((up_ne (by decide)).trans ((up_ne (by decide)).trans ((up_ne (by decide)).trans ((up_ne (by decide)).trans ((up_ne (by decide)).trans ((up_ne (by decide)).trans ((up_ne (by decide)).trans ((up_ne (by decide)).trans ((up_ne (by decide)).trans ((up_ne (by decide)).trans ((up_ne (by decide)).trans ((up_ne (by decide)).trans ((up_ne (by decide)).trans ((up_ne (by decide)).trans ((up_ne (by decide)).trans ((up_ne (by decide)).trans ((up_ne (by decide)).trans ((up_ne (by decide)).trans ((up_ne (by decide)).trans ((up_ne (by decide)).trans ((up_ne (by decide)).trans ((up_ne (by decide)).trans ((up_ne (by decide)).trans ((up_ne (by decide)).trans ((up_ne (by decide)).trans ((up_ne (by decide)).trans ((up_ne (by decide)).trans ((up_ne (by decide)).trans ((up_ne (by decide)).trans ((up_ne (by decide)).trans ((up_ne (by decide)).trans ((up_ne (by decide)).trans up_at)))))))))))))))))))))))))))))))))))) rfl inT3 (by decide) rfl tb_219 rfl dX3_init_63 ?_
  refine lv_iload_n hx hb dX3_init_66 rfl (lv_at hl 0 rfl) ?_
  refine n_new F w (C := RX9) (T := TX9) (N := 6) (ci := 9) (fs := [.int 0, .int 0, .int 0, .int 0, .null, .null]) tyX9 tyX9_ok inT9 tb_769 tb_754 tb_5 rfl nf_9 (Nat.le_of_ble_eq_true rfl) (Nat.le_of_ble_eq_true rfl) (c1 := 23) (s1 := 1639) (n1 := 133) rfl rfl rfl dX3_init_67 (fun H w => ?_)
  refine lv_dup hx hb dX3_init_70 rfl ?_
  refine n_callN F w (b := 132) (As := []) (rest := [.ref (B + 132), .int 6, .ref (B + 111)]) (n_X9_init_50 (up_at)) gc_X9_init rfl tb_5 (by decide) tb_756 hs_X9_init ⟨(Nat.le_of_ble_eq_true rfl), (Nat.le_of_ble_eq_true rfl)⟩ hl.1 rfl (Nat.le_of_ble_eq_true rfl) ⟨(Nat.le_of_ble_eq_true rfl), (Nat.le_of_ble_eq_true rfl)⟩ (k1 := 25) (k2 := 1663) rfl rfl dX3_init_71 (fun H locs w => ?_)
  refine n_ast F w (a := 111) (v := 132) (j := 6) (t := 5) (ci := 9) (by decide) (by decide) ((up_ne (by decide)).trans ((up_ne (by decide)).trans ((up_ne (by decide)).trans ((up_ne (by decide)).trans ((up_ne (by decide)).trans up_at))))) rfl (up_at) rfl ⟨by decide, by decide⟩ (by decide) dX3_init_74 (fun H locs w => ?_)
  refine lv_iinc (v := 7) (lv' := [(1, .int 7), (0, .ref (B + 109))]) hx hb dX3_init_75 hl (k := 0) rfl (by decide) (by decide) rfl (fun ls hl => ?_)
  refine lv_goto (tgt := 56) hx hb dX3_init_78 (by decide) ?_
  refine lv_iload_n hx hb dX3_init_56 rfl (lv_at hl 0 rfl) ?_
  refine lv_bipush (v := 6) hx hb dX3_init_57 (by decide) ?_
  refine lv_icmp_gt (tgt := 81) hx hb dX3_init_59 (by decide) (fun _ => ?_) (fun c1 => absurd c1 (by decide))
  exact n_end F w hr hlocks dX3_init_81
theorem tk_X3_init : Cond.code yX3_init cX3_init 2 none ∈ TB := tbm (tc1 (List.mem_of_getElem? (i := 225) rfl)) rfl
theorem gc_X3_init : GoodIn TB (cw yX3_init cX3_init 2 none) := goodIn_c2 tk_X3_init
theorem hs_X3_init : yX3_init.cls ≠ "java/lang/invoke/MethodHandle" ∧ yX3_init.cls ≠ "java/lang/invoke/VarHandle" ∧ (parseMethodDescriptor yX3_init.desc).map (fun d => d.parameters.length) = some 0 := by decide +kernel
theorem tb_771 : Cond.methodLink "ToneLines" 53 yX3_init ∈ TB := tbm (tc1 (List.mem_of_getElem? (i := 223) rfl)) rfl
theorem tb_772 : Cond.instanceMethod yX3_init ∈ TB := tbm (tc1 (List.mem_of_getElem? (i := 224) rfl)) rfl
theorem dX11_init_86 : decode cX11_init 86 = .ok (.putfield 54, 3) := dqV kk_181 (by decide +kernel)
theorem dX11_init_89 : decode cX11_init 89 = .ok (.aload_n 0, 1) := dq0 kk_42 (by decide +kernel)
theorem dX11_init_90 : decode cX11_init 90 = .ok (.new 58, 3) := dqV kk_187 (by decide +kernel)
theorem tb_773 : Cond.classLink "ToneLines" 58 "ToneLines$Sources" ∈ TB := tbm (tc2 (List.mem_of_getElem? (i := 15) rfl)) rfl
theorem tb_774 : Cond.instantiable "ToneLines$Sources" 4 ∈ TB := tbm (tc2 (List.mem_of_getElem? (i := 16) rfl)) rfl
theorem dX11_init_93 : decode cX11_init 93 = .ok (.dup, 1) := dq0 kk_89 (by decide +kernel)
theorem dX11_init_94 : decode cX11_init 94 = .ok (.invokespecial 60, 3) := dqV kk_183 (by decide +kernel)
theorem dX6_init_0 : decode cX6_init 0 = .ok (.aload_n 0, 1) := dq0 kk_42 (by decide +kernel)
theorem dX6_init_1 : decode cX6_init 1 = .ok (.invokespecial 3, 3) := dqV kk_183 (by decide +kernel)
theorem tb_775 : Cond.methodLink "ToneLines$Sources" 3 ⟨"java/lang/Object", "<init>", "()V"⟩ ∈ TB := tbm (tc2 (List.mem_of_getElem? (i := 20) rfl)) rfl
theorem dX6_init_4 : decode cX6_init 4 = .ok (.aload_n 0, 1) := dq0 kk_42 (by decide +kernel)
theorem dX6_init_5 : decode cX6_init 5 = .ok (.iconst 0, 1) := dq0 kk_3 (by decide +kernel)
theorem dX6_init_6 : decode cX6_init 6 = .ok (.putfield 9, 3) := dqV kk_181 (by decide +kernel)
theorem dX6_init_9 : decode cX6_init 9 = .ok (.aload_n 0, 1) := dq0 kk_42 (by decide +kernel)
theorem dX6_init_10 : decode cX6_init 10 = .ok (.bipush 7, 2) := dqS kk_16 (by decide +kernel)
theorem dX6_init_12 : decode cX6_init 12 = .ok (.newarray .int, 2) := by decide +kernel
theorem dX6_init_14 : decode cX6_init 14 = .ok (.putfield 15, 3) := dqV kk_181 (by decide +kernel)
theorem dX6_init_17 : decode cX6_init 17 = .ok (.aload_n 0, 1) := dq0 kk_42 (by decide +kernel)
theorem dX6_init_18 : decode cX6_init 18 = .ok (.bipush 7, 2) := dqS kk_16 (by decide +kernel)
theorem dX6_init_20 : decode cX6_init 20 = .ok (.newarray .int, 2) := by decide +kernel
theorem dX6_init_22 : decode cX6_init 22 = .ok (.putfield 19, 3) := dqV kk_181 (by decide +kernel)
theorem dX6_init_25 : decode cX6_init 25 = .ok (.aload_n 0, 1) := dq0 kk_42 (by decide +kernel)
theorem dX6_init_26 : decode cX6_init 26 = .ok (.new 22, 3) := dqV kk_187 (by decide +kernel)
theorem tb_776 : Cond.classLink "ToneLines$Sources" 22 "ToneLines$Word" ∈ TB := tbm (tc2 (List.mem_of_getElem? (i := 21) rfl)) rfl
theorem dX6_init_29 : decode cX6_init 29 = .ok (.dup, 1) := dq0 kk_89 (by decide +kernel)
theorem dX6_init_30 : decode cX6_init 30 = .ok (.invokespecial 24, 3) := dqV kk_183 (by decide +kernel)
set_option maxRecDepth 8000 in
theorem n_X9_init_52 {l : Launch} {D : va_G} {B : Nat} {cy : Nat → ClassId} {E : Nat → va_E} (h0 : E 138 = .inr (9, [.int 0, .int 0, .int 0, .int 0, .null, .null])) : Cn l D B cy yX9_init cX9_init 1 1 12 2 24 [.ref (B + 138)] 139 E 141 (va_up (va_up (va_up (va_up E 139 (.inl (cy 2, 12, .inl (fun _ => 0)))) 138 (.inr (9, [.int 0, .int 0, .int 0, .int 0, .ref (B + 139), .null]))) 140 (.inl (cy 2, 12, .inl (fun _ => 0)))) 138 (.inr (9, [.int 0, .int 0, .int 0, .int 0, .ref (B + 139), .ref (B + 140)]))) := by
  refine n_start (by decide) (Nat.le_of_ble_eq_true rfl) rfl ?_
  intro p e s m below meth c ls F hr hlocks hin w hl
  have F : CallFix p m c cX9_init 1 s _ TB RX9 := F
  have hx := F.1
  have hb := F.2.1
  have hl : lv_has ls 1 [(0, .ref (B + 138))] := hl
  refine lv_aload_n hx hb dX9_init_0 rfl (lv_at hl 0 rfl) ?_
  refine n_obj F hl.1 tb_755 tb_723 tk_obj dX9_init_1 (Nat.le_of_ble_eq_true rfl) (Nat.le_of_ble_eq_true rfl) ?_
  refine lv_aload_n hx hb dX9_init_4 rfl (lv_at hl 0 rfl) ?_
  refine lv_iconst (v := 0) hx hb dX9_init_5 (by decide) ?_
  refine n_put F w (a := 138) (C := RX9) (T := TX9) (N := 6) (ci := 9) (k := 0) (x := .int 0) (ty := .int) (fs1 := [.int 0, .int 0, .int 0, .int 0, .null, .null]) tyX9 tyX9_ok nmX9 (by decide) (h0) rfl rfl inT9 (by decide) rfl tb_0 rfl (by decide +kernel) rfl rfl (Nat.le_of_ble_eq_true rfl) dX9_init_6 (fun H locs w => ?_)
  rw [up_same (h0)] at w
  refine lv_aload_n hx hb dX9_init_9 rfl (lv_at hl 0 rfl) ?_
  refine lv_iconst (v := 0) hx hb dX9_init_10 (by decide) ?_
  refine n_put F w (a := 138) (C := RX9) (T := TX9) (N := 6) (ci := 9) (k := 1) (x := .int 0) (ty := .int) (fs1 := [.int 0, .int 0, .int 0, .int 0, .null, .null]) tyX9 tyX9_ok nmX9 (by decide) (h0) rfl rfl inT9 (by decide) rfl tb_1 rfl (by decide +kernel) rfl rfl (Nat.le_of_ble_eq_true rfl) dX9_init_11 (fun H locs w => ?_)
  rw [up_same (h0)] at w
  refine lv_aload_n hx hb dX9_init_14 rfl (lv_at hl 0 rfl) ?_
  refine lv_iconst (v := 0) hx hb dX9_init_15 (by decide) ?_
  refine n_put F w (a := 138) (C := RX9) (T := TX9) (N := 6) (ci := 9) (k := 2) (x := .int 0) (ty := .int) (fs1 := [.int 0, .int 0, .int 0, .int 0, .null, .null]) tyX9 tyX9_ok nmX9 (by decide) (h0) rfl rfl inT9 (by decide) rfl tb_11 rfl (by decide +kernel) rfl rfl (Nat.le_of_ble_eq_true rfl) dX9_init_16 (fun H locs w => ?_)
  rw [up_same (h0)] at w
  refine lv_aload_n hx hb dX9_init_19 rfl (lv_at hl 0 rfl) ?_
  refine lv_iconst (v := 0) hx hb dX9_init_20 (by decide) ?_
  refine n_put F w (a := 138) (C := RX9) (T := TX9) (N := 6) (ci := 9) (k := 3) (x := .int 0) (ty := .int) (fs1 := [.int 0, .int 0, .int 0, .int 0, .null, .null]) tyX9 tyX9_ok nmX9 (by decide) (h0) rfl rfl inT9 (by decide) rfl tb_12 rfl (by decide +kernel) rfl rfl (Nat.le_of_ble_eq_true rfl) dX9_init_21 (fun H locs w => ?_)
  rw [up_same (h0)] at w
  refine lv_aload_n hx hb dX9_init_24 rfl (lv_at hl 0 rfl) ?_
  refine lv_bipush (v := 12) hx hb dX9_init_25 (by decide) ?_
  refine n_newa F w (atype := .int) (ty := .int) (t := 2) (N := 12) (cA := cy 2) (a0 := (12, .inl (fun _ => 0))) tb_741 rfl (fun _ h => h) rfl (fun _ => rfl) (by decide) (by decide) (Nat.le_of_ble_eq_true rfl) (Nat.le_of_ble_eq_true rfl) (Nat.le_of_ble_eq_true rfl) (c1 := 1) (s1 := 12) (n1 := 140) rfl rfl rfl dX9_init_27 (fun H w => ?_)
  refine n_putF F w (a := 138) (C := RX9) (T := TX9) (N := 6) (ci := 9) (k := 4) (x := .ref (B + 139)) (ty := .array .int) (fs1 := [.int 0, .int 0, .int 0, .int 0, .ref (B + 139), .null]) tyX9 tyX9_ok nmX9 (by decide) ((up_ne (by decide)).trans h0) rfl rfl inT9 (by decide) rfl tb_7 rfl hin rfl (by decide +kernel) rfl rfl (Nat.le_of_ble_eq_true rfl) dX9_init_29 (fun H locs w => ?_)
  refine lv_aload_n hx hb dX9_init_32 rfl (lv_at hl 0 rfl) ?_
  refine lv_bipush (v := 12) hx hb dX9_init_33 (by decide) ?_
  refine n_newa F w (atype := .int) (ty := .int) (t := 2) (N := 12) (cA := cy 2) (a0 := (12, .inl (fun _ => 0))) tb_741 rfl (fun _ h => h) rfl (fun _ => rfl) (by decide) (by decide) (Nat.le_of_ble_eq_true rfl) (Nat.le_of_ble_eq_true rfl) (Nat.le_of_ble_eq_true rfl) (c1 := 2) (s1 := 24) (n1 := 141) rfl rfl rfl dX9_init_35 (fun H w => ?_)
  refine n_putF F w (a := 138) (C := RX9) (T := TX9) (N := 6) (ci := 9) (k := 5) (x := .ref (B + 140)) (ty := .array .int) (fs1 := [.int 0, .int 0, .int 0, .int 0, .ref (B + 139), .ref (B + 140)]) tyX9 tyX9_ok nmX9 (by decide) ((up_ne (by decide)).trans up_at) rfl rfl inT9 (by decide) rfl tb_6 rfl hin rfl (by decide +kernel) rfl rfl (Nat.le_of_ble_eq_true rfl) dX9_init_37 (fun H locs w => ?_)
  exact n_end F w hr hlocks dX9_init_40
theorem dX6_init_33 : decode cX6_init 33 = .ok (.putfield 25, 3) := dqV kk_181 (by decide +kernel)
theorem dX6_init_36 : decode cX6_init 36 = .ok (.return_, 1) := dq0 kk_177 (by decide +kernel)
set_option maxRecDepth 8000 in
theorem n_X6_init_53 {l : Launch} {D : va_G} {B : Nat} {cy : Nat → ClassId} {E : Nat → va_E} (h0 : E 135 = .inr (6, [.int 0, .null, .null, .null])) : Cn l D B cy yX6_init cX6_init 1 2 32 5 44 [.ref (B + 135)] 136 E 141 (va_up (va_up (va_up (va_up (va_up (va_up (va_up (va_up (va_up (va_up E 136 (.inl (cy 2, 7, .inl (fun _ => 0)))) 135 (.inr (6, [.int 0, .ref (B + 136), .null, .null]))) 137 (.inl (cy 2, 7, .inl (fun _ => 0)))) 135 (.inr (6, [.int 0, .ref (B + 136), .ref (B + 137), .null]))) 138 (.inr (9, [.int 0, .int 0, .int 0, .int 0, .null, .null]))) 139 (.inl (cy 2, 12, .inl (fun _ => 0)))) 138 (.inr (9, [.int 0, .int 0, .int 0, .int 0, .ref (B + 139), .null]))) 140 (.inl (cy 2, 12, .inl (fun _ => 0)))) 138 (.inr (9, [.int 0, .int 0, .int 0, .int 0, .ref (B + 139), .ref (B + 140)]))) 135 (.inr (6, [.int 0, .ref (B + 136), .ref (B + 137), .ref (B + 138)]))) := by
  refine n_start (by decide) (Nat.le_of_ble_eq_true rfl) rfl ?_
  intro p e s m below meth c ls F hr hlocks hin w hl
  have F : CallFix p m c cX6_init 1 s _ TB RX6 := F
  have hx := F.1
  have hb := F.2.1
  have hl : lv_has ls 1 [(0, .ref (B + 135))] := hl
  refine lv_aload_n hx hb dX6_init_0 rfl (lv_at hl 0 rfl) ?_
  refine n_obj F hl.1 tb_775 tb_723 tk_obj dX6_init_1 (Nat.le_of_ble_eq_true rfl) (Nat.le_of_ble_eq_true rfl) ?_
  refine lv_aload_n hx hb dX6_init_4 rfl (lv_at hl 0 rfl) ?_
  refine lv_iconst (v := 0) hx hb dX6_init_5 (by decide) ?_
  refine n_put F w (a := 135) (C := RX6) (T := TX6) (N := 4) (ci := 6) (k := 0) (x := .int 0) (ty := .int) (fs1 := [.int 0, .null, .null, .null]) tyX6 tyX6_ok nmX6 (by decide) (h0) rfl rfl inT6 (by decide) rfl tb_239 rfl (by decide +kernel) rfl rfl (Nat.le_of_ble_eq_true rfl) dX6_init_6 (fun H locs w => ?_)
  rw [up_same (h0)] at w
  refine lv_aload_n hx hb dX6_init_9 rfl (lv_at hl 0 rfl) ?_
  refine lv_bipush (v := 7) hx hb dX6_init_10 (by decide) ?_
  refine n_newa F w (atype := .int) (ty := .int) (t := 2) (N := 7) (cA := cy 2) (a0 := (7, .inl (fun _ => 0))) tb_741 rfl (fun _ h => h) rfl (fun _ => rfl) (by decide) (by decide) (Nat.le_of_ble_eq_true rfl) (Nat.le_of_ble_eq_true rfl) (Nat.le_of_ble_eq_true rfl) (c1 := 1) (s1 := 7) (n1 := 137) rfl rfl rfl dX6_init_12 (fun H w => ?_)
  refine n_putF F w (a := 135) (C := RX6) (T := TX6) (N := 4) (ci := 6) (k := 1) (x := .ref (B + 136)) (ty := .array .int) (fs1 := [.int 0, .ref (B + 136), .null, .null]) tyX6 tyX6_ok nmX6 (by decide) ((up_ne (by decide)).trans h0) rfl rfl inT6 (by decide) rfl tb_242 rfl hin rfl (by decide +kernel) rfl rfl (Nat.le_of_ble_eq_true rfl) dX6_init_14 (fun H locs w => ?_)
  refine lv_aload_n hx hb dX6_init_17 rfl (lv_at hl 0 rfl) ?_
  refine lv_bipush (v := 7) hx hb dX6_init_18 (by decide) ?_
  refine n_newa F w (atype := .int) (ty := .int) (t := 2) (N := 7) (cA := cy 2) (a0 := (7, .inl (fun _ => 0))) tb_741 rfl (fun _ h => h) rfl (fun _ => rfl) (by decide) (by decide) (Nat.le_of_ble_eq_true rfl) (Nat.le_of_ble_eq_true rfl) (Nat.le_of_ble_eq_true rfl) (c1 := 2) (s1 := 14) (n1 := 138) rfl rfl rfl dX6_init_20 (fun H w => ?_)
  refine n_putF F w (a := 135) (C := RX6) (T := TX6) (N := 4) (ci := 6) (k := 2) (x := .ref (B + 137)) (ty := .array .int) (fs1 := [.int 0, .ref (B + 136), .ref (B + 137), .null]) tyX6 tyX6_ok nmX6 (by decide) ((up_ne (by decide)).trans up_at) rfl rfl inT6 (by decide) rfl tb_243 rfl hin rfl (by decide +kernel) rfl rfl (Nat.le_of_ble_eq_true rfl) dX6_init_22 (fun H locs w => ?_)
  refine lv_aload_n hx hb dX6_init_25 rfl (lv_at hl 0 rfl) ?_
  refine n_new F w (C := RX9) (T := TX9) (N := 6) (ci := 9) (fs := [.int 0, .int 0, .int 0, .int 0, .null, .null]) tyX9 tyX9_ok inT9 tb_776 tb_754 tb_5 rfl nf_9 (Nat.le_of_ble_eq_true rfl) (Nat.le_of_ble_eq_true rfl) (c1 := 3) (s1 := 20) (n1 := 139) rfl rfl rfl dX6_init_26 (fun H w => ?_)
  refine lv_dup hx hb dX6_init_29 rfl ?_
  refine n_callN F w (b := 138) (As := []) (rest := [.ref (B + 138), .ref (B + 135)]) (n_X9_init_52 (up_at)) gc_X9_init rfl tb_5 (by decide) tb_756 hs_X9_init ⟨(Nat.le_of_ble_eq_true rfl), (Nat.le_of_ble_eq_true rfl)⟩ hl.1 rfl (Nat.le_of_ble_eq_true rfl) ⟨(Nat.le_of_ble_eq_true rfl), (Nat.le_of_ble_eq_true rfl)⟩ (k1 := 5) (k2 := 44) rfl rfl dX6_init_30 (fun H locs w => ?_)
  refine n_putF F w (a := 135) (C := RX6) (T := TX6) (N := 4) (ci := 6) (k := 3) (x := .ref (B + 138)) (ty := .object "ToneLines$Word") (fs1 := [.int 0, .ref (B + 136), .ref (B + 137), .ref (B + 138)]) tyX6 tyX6_ok nmX6 (by decide) ((up_ne (by decide)).trans ((up_ne (by decide)).trans ((up_ne (by decide)).trans ((up_ne (by decide)).trans ((up_ne (by decide)).trans up_at))))) rfl rfl inT6 (by decide) rfl tb_233 rfl hin rfl (by decide +kernel) rfl rfl (Nat.le_of_ble_eq_true rfl) dX6_init_33 (fun H locs w => ?_)
  exact n_end F w hr hlocks dX6_init_36
theorem tk_X6_init : Cond.code yX6_init cX6_init 1 none ∈ TB := tbm (tc2 (List.mem_of_getElem? (i := 19) rfl)) rfl
theorem gc_X6_init : GoodIn TB (cw yX6_init cX6_init 1 none) := goodIn_c2 tk_X6_init
theorem hs_X6_init : yX6_init.cls ≠ "java/lang/invoke/MethodHandle" ∧ yX6_init.cls ≠ "java/lang/invoke/VarHandle" ∧ (parseMethodDescriptor yX6_init.desc).map (fun d => d.parameters.length) = some 0 := by decide +kernel
theorem tb_777 : Cond.instanceMethod yX6_init ∈ TB := tbm (tc2 (List.mem_of_getElem? (i := 18) rfl)) rfl
theorem dX11_init_97 : decode cX11_init 97 = .ok (.putfield 61, 3) := dqV kk_181 (by decide +kernel)
theorem dX11_init_100 : decode cX11_init 100 = .ok (.aload_n 0, 1) := dq0 kk_42 (by decide +kernel)
theorem dX11_init_101 : decode cX11_init 101 = .ok (.new 65, 3) := dqV kk_187 (by decide +kernel)
theorem tb_778 : Cond.classLink "ToneLines" 65 "ToneLines$Speller" ∈ TB := tbm (tc2 (List.mem_of_getElem? (i := 39) rfl)) rfl
theorem tb_779 : Cond.instantiable "ToneLines$Speller" 2 ∈ TB := tbm (tc2 (List.mem_of_getElem? (i := 40) rfl)) rfl
theorem dX11_init_104 : decode cX11_init 104 = .ok (.dup, 1) := dq0 kk_89 (by decide +kernel)
theorem dX11_init_105 : decode cX11_init 105 = .ok (.invokespecial 67, 3) := dqV kk_183 (by decide +kernel)
theorem dX7_init_0 : decode cX7_init 0 = .ok (.aload_n 0, 1) := dq0 kk_42 (by decide +kernel)
theorem dX7_init_1 : decode cX7_init 1 = .ok (.invokespecial 3, 3) := dqV kk_183 (by decide +kernel)
theorem tb_780 : Cond.methodLink "ToneLines$Speller" 3 ⟨"java/lang/Object", "<init>", "()V"⟩ ∈ TB := tbm (tc2 (List.mem_of_getElem? (i := 44) rfl)) rfl
theorem dX7_init_4 : decode cX7_init 4 = .ok (.aload_n 0, 1) := dq0 kk_42 (by decide +kernel)
theorem dX7_init_5 : decode cX7_init 5 = .ok (.sipush 256, 3) := dqT kk_17 (by decide +kernel)
theorem dX7_init_8 : decode cX7_init 8 = .ok (.newarray .char, 2) := by decide +kernel
theorem tb_781 : Cond.arrayClass FieldType.char ∈ TB := tbm (tc2 (List.mem_of_getElem? (i := 54) rfl)) rfl
theorem dX7_init_10 : decode cX7_init 10 = .ok (.putfield 9, 3) := dqV kk_181 (by decide +kernel)
theorem dX7_init_13 : decode cX7_init 13 = .ok (.aload_n 0, 1) := dq0 kk_42 (by decide +kernel)
theorem dX7_init_14 : decode cX7_init 14 = .ok (.iconst 0, 1) := dq0 kk_3 (by decide +kernel)
theorem dX7_init_15 : decode cX7_init 15 = .ok (.putfield 15, 3) := dqV kk_181 (by decide +kernel)
theorem dX7_init_18 : decode cX7_init 18 = .ok (.return_, 1) := dq0 kk_177 (by decide +kernel)
set_option maxRecDepth 8000 in
theorem n_X7_init_54 {l : Launch} {D : va_G} {B : Nat} {cy : Nat → ClassId} {E : Nat → va_E} (h0 : E 141 = .inr (7, [.null, .int 0])) : Cn l D B cy yX7_init cX7_init 1 1 12 1 256 [.ref (B + 141)] 142 E 143 (va_up (va_up E 142 (.inl (cy 1, 256, .inl (fun _ => 0)))) 141 (.inr (7, [.ref (B + 142), .int 0]))) := by
  refine n_start (by decide) (Nat.le_of_ble_eq_true rfl) rfl ?_
  intro p e s m below meth c ls F hr hlocks hin w hl
  have F : CallFix p m c cX7_init 1 s _ TB RX7 := F
  have hx := F.1
  have hb := F.2.1
  have hl : lv_has ls 1 [(0, .ref (B + 141))] := hl
  refine lv_aload_n hx hb dX7_init_0 rfl (lv_at hl 0 rfl) ?_
  refine n_obj F hl.1 tb_780 tb_723 tk_obj dX7_init_1 (Nat.le_of_ble_eq_true rfl) (Nat.le_of_ble_eq_true rfl) ?_
  refine lv_aload_n hx hb dX7_init_4 rfl (lv_at hl 0 rfl) ?_
  refine lv_sipush (v := 256) hx hb dX7_init_5 (by decide) ?_
  refine n_newa F w (atype := .char) (ty := .char) (t := 1) (N := 256) (cA := cy 1) (a0 := (256, .inl (fun _ => 0))) tb_781 rfl (fun _ h => h) rfl (fun _ => rfl) (by decide) (by decide) (Nat.le_of_ble_eq_true rfl) (Nat.le_of_ble_eq_true rfl) (Nat.le_of_ble_eq_true rfl) (c1 := 1) (s1 := 256) (n1 := 143) rfl rfl rfl dX7_init_8 (fun H w => ?_)
  refine n_putF F w (a := 141) (C := RX7) (T := TX7) (N := 2) (ci := 7) (k := 0) (x := .ref (B + 142)) (ty := .array .char) (fs1 := [.ref (B + 142), .int 0]) tyX7 tyX7_ok nmX7 (by decide) ((up_ne (by decide)).trans h0) rfl rfl inT7 (by decide) rfl tb_254 rfl hin rfl (by decide +kernel) rfl rfl (Nat.le_of_ble_eq_true rfl) dX7_init_10 (fun H locs w => ?_)
  refine lv_aload_n hx hb dX7_init_13 rfl (lv_at hl 0 rfl) ?_
  refine lv_iconst (v := 0) hx hb dX7_init_14 (by decide) ?_
  refine n_put F w (a := 141) (C := RX7) (T := TX7) (N := 2) (ci := 7) (k := 1) (x := .int 0) (ty := .int) (fs1 := [.ref (B + 142), .int 0]) tyX7 tyX7_ok nmX7 (by decide) (up_at) rfl rfl inT7 (by decide) rfl tb_253 rfl (by decide +kernel) rfl rfl (Nat.le_of_ble_eq_true rfl) dX7_init_15 (fun H locs w => ?_)
  rw [up_same (up_at)] at w
  exact n_end F w hr hlocks dX7_init_18
theorem tk_X7_init : Cond.code yX7_init cX7_init 1 none ∈ TB := tbm (tc2 (List.mem_of_getElem? (i := 43) rfl)) rfl
theorem gc_X7_init : GoodIn TB (cw yX7_init cX7_init 1 none) := goodIn_c2 tk_X7_init
theorem hs_X7_init : yX7_init.cls ≠ "java/lang/invoke/MethodHandle" ∧ yX7_init.cls ≠ "java/lang/invoke/VarHandle" ∧ (parseMethodDescriptor yX7_init.desc).map (fun d => d.parameters.length) = some 0 := by decide +kernel
theorem tb_782 : Cond.instanceMethod yX7_init ∈ TB := tbm (tc2 (List.mem_of_getElem? (i := 42) rfl)) rfl
theorem dX11_init_108 : decode cX11_init 108 = .ok (.putfield 68, 3) := dqV kk_181 (by decide +kernel)
theorem dX11_init_111 : decode cX11_init 111 = .ok (.aload_n 0, 1) := dq0 kk_42 (by decide +kernel)
theorem dX11_init_112 : decode cX11_init 112 = .ok (.new 72, 3) := dqV kk_187 (by decide +kernel)
theorem tb_783 : Cond.classLink "ToneLines" 72 "ToneLines$Word" ∈ TB := tbm (tc2 (List.mem_of_getElem? (i := 55) rfl)) rfl
theorem dX11_init_115 : decode cX11_init 115 = .ok (.dup, 1) := dq0 kk_89 (by decide +kernel)
theorem dX11_init_116 : decode cX11_init 116 = .ok (.invokespecial 74, 3) := dqV kk_183 (by decide +kernel)
set_option maxRecDepth 8000 in
theorem n_X9_init_55 {l : Launch} {D : va_G} {B : Nat} {cy : Nat → ClassId} {E : Nat → va_E} (h0 : E 143 = .inr (9, [.int 0, .int 0, .int 0, .int 0, .null, .null])) : Cn l D B cy yX9_init cX9_init 1 1 12 2 24 [.ref (B + 143)] 144 E 146 (va_up (va_up (va_up (va_up E 144 (.inl (cy 2, 12, .inl (fun _ => 0)))) 143 (.inr (9, [.int 0, .int 0, .int 0, .int 0, .ref (B + 144), .null]))) 145 (.inl (cy 2, 12, .inl (fun _ => 0)))) 143 (.inr (9, [.int 0, .int 0, .int 0, .int 0, .ref (B + 144), .ref (B + 145)]))) := by
  refine n_start (by decide) (Nat.le_of_ble_eq_true rfl) rfl ?_
  intro p e s m below meth c ls F hr hlocks hin w hl
  have F : CallFix p m c cX9_init 1 s _ TB RX9 := F
  have hx := F.1
  have hb := F.2.1
  have hl : lv_has ls 1 [(0, .ref (B + 143))] := hl
  refine lv_aload_n hx hb dX9_init_0 rfl (lv_at hl 0 rfl) ?_
  refine n_obj F hl.1 tb_755 tb_723 tk_obj dX9_init_1 (Nat.le_of_ble_eq_true rfl) (Nat.le_of_ble_eq_true rfl) ?_
  refine lv_aload_n hx hb dX9_init_4 rfl (lv_at hl 0 rfl) ?_
  refine lv_iconst (v := 0) hx hb dX9_init_5 (by decide) ?_
  refine n_put F w (a := 143) (C := RX9) (T := TX9) (N := 6) (ci := 9) (k := 0) (x := .int 0) (ty := .int) (fs1 := [.int 0, .int 0, .int 0, .int 0, .null, .null]) tyX9 tyX9_ok nmX9 (by decide) (h0) rfl rfl inT9 (by decide) rfl tb_0 rfl (by decide +kernel) rfl rfl (Nat.le_of_ble_eq_true rfl) dX9_init_6 (fun H locs w => ?_)
  rw [up_same (h0)] at w
  refine lv_aload_n hx hb dX9_init_9 rfl (lv_at hl 0 rfl) ?_
  refine lv_iconst (v := 0) hx hb dX9_init_10 (by decide) ?_
  refine n_put F w (a := 143) (C := RX9) (T := TX9) (N := 6) (ci := 9) (k := 1) (x := .int 0) (ty := .int) (fs1 := [.int 0, .int 0, .int 0, .int 0, .null, .null]) tyX9 tyX9_ok nmX9 (by decide) (h0) rfl rfl inT9 (by decide) rfl tb_1 rfl (by decide +kernel) rfl rfl (Nat.le_of_ble_eq_true rfl) dX9_init_11 (fun H locs w => ?_)
  rw [up_same (h0)] at w
  refine lv_aload_n hx hb dX9_init_14 rfl (lv_at hl 0 rfl) ?_
  refine lv_iconst (v := 0) hx hb dX9_init_15 (by decide) ?_
  refine n_put F w (a := 143) (C := RX9) (T := TX9) (N := 6) (ci := 9) (k := 2) (x := .int 0) (ty := .int) (fs1 := [.int 0, .int 0, .int 0, .int 0, .null, .null]) tyX9 tyX9_ok nmX9 (by decide) (h0) rfl rfl inT9 (by decide) rfl tb_11 rfl (by decide +kernel) rfl rfl (Nat.le_of_ble_eq_true rfl) dX9_init_16 (fun H locs w => ?_)
  rw [up_same (h0)] at w
  refine lv_aload_n hx hb dX9_init_19 rfl (lv_at hl 0 rfl) ?_
  refine lv_iconst (v := 0) hx hb dX9_init_20 (by decide) ?_
  refine n_put F w (a := 143) (C := RX9) (T := TX9) (N := 6) (ci := 9) (k := 3) (x := .int 0) (ty := .int) (fs1 := [.int 0, .int 0, .int 0, .int 0, .null, .null]) tyX9 tyX9_ok nmX9 (by decide) (h0) rfl rfl inT9 (by decide) rfl tb_12 rfl (by decide +kernel) rfl rfl (Nat.le_of_ble_eq_true rfl) dX9_init_21 (fun H locs w => ?_)
  rw [up_same (h0)] at w
  refine lv_aload_n hx hb dX9_init_24 rfl (lv_at hl 0 rfl) ?_
  refine lv_bipush (v := 12) hx hb dX9_init_25 (by decide) ?_
  refine n_newa F w (atype := .int) (ty := .int) (t := 2) (N := 12) (cA := cy 2) (a0 := (12, .inl (fun _ => 0))) tb_741 rfl (fun _ h => h) rfl (fun _ => rfl) (by decide) (by decide) (Nat.le_of_ble_eq_true rfl) (Nat.le_of_ble_eq_true rfl) (Nat.le_of_ble_eq_true rfl) (c1 := 1) (s1 := 12) (n1 := 145) rfl rfl rfl dX9_init_27 (fun H w => ?_)
  refine n_putF F w (a := 143) (C := RX9) (T := TX9) (N := 6) (ci := 9) (k := 4) (x := .ref (B + 144)) (ty := .array .int) (fs1 := [.int 0, .int 0, .int 0, .int 0, .ref (B + 144), .null]) tyX9 tyX9_ok nmX9 (by decide) ((up_ne (by decide)).trans h0) rfl rfl inT9 (by decide) rfl tb_7 rfl hin rfl (by decide +kernel) rfl rfl (Nat.le_of_ble_eq_true rfl) dX9_init_29 (fun H locs w => ?_)
  refine lv_aload_n hx hb dX9_init_32 rfl (lv_at hl 0 rfl) ?_
  refine lv_bipush (v := 12) hx hb dX9_init_33 (by decide) ?_
  refine n_newa F w (atype := .int) (ty := .int) (t := 2) (N := 12) (cA := cy 2) (a0 := (12, .inl (fun _ => 0))) tb_741 rfl (fun _ h => h) rfl (fun _ => rfl) (by decide) (by decide) (Nat.le_of_ble_eq_true rfl) (Nat.le_of_ble_eq_true rfl) (Nat.le_of_ble_eq_true rfl) (c1 := 2) (s1 := 24) (n1 := 146) rfl rfl rfl dX9_init_35 (fun H w => ?_)
  refine n_putF F w (a := 143) (C := RX9) (T := TX9) (N := 6) (ci := 9) (k := 5) (x := .ref (B + 145)) (ty := .array .int) (fs1 := [.int 0, .int 0, .int 0, .int 0, .ref (B + 144), .ref (B + 145)]) tyX9 tyX9_ok nmX9 (by decide) ((up_ne (by decide)).trans up_at) rfl rfl inT9 (by decide) rfl tb_6 rfl hin rfl (by decide +kernel) rfl rfl (Nat.le_of_ble_eq_true rfl) dX9_init_37 (fun H locs w => ?_)
  exact n_end F w hr hlocks dX9_init_40
theorem dX11_init_119 : decode cX11_init 119 = .ok (.putfield 75, 3) := dqV kk_181 (by decide +kernel)
theorem dX11_init_122 : decode cX11_init 122 = .ok (.return_, 1) := dq0 kk_177 (by decide +kernel)
set_option maxRecDepth 8000 in
theorem n_X11_init_56 {l : Launch} {D : va_G} {B : Nat} {cy : Nat → ClassId} {E : Nat → va_E} (h0 : E 0 = .inr (11, [.null, .null, .null, .null, .null, .null, .null, .null, .null, .null])) : Cn l D B cy yX11_init cX11_init 1 3 54 145 3155 [.ref (B + 0)] 1 E 146 (va_up (va_up (va_up (va_up (va_up (va_up (va_up (va_up (va_up (va_up (va_up (va_up (va_up (va_up (va_up (va_up (va_up (va_up (va_up (va_up (va_up (va_up (va_up (va_up (va_up (va_up (va_up (va_up (va_up (va_up (va_up (va_up (va_up (va_up (va_up (va_up (va_up (va_up (va_up (va_up (va_up (va_up (va_up (va_up (va_up (va_up (va_up (va_up (va_up (va_up (va_up (va_up (va_up (va_up (va_up (va_up (va_up (va_up (va_up (va_up (va_up (va_up (va_up (va_up (va_up (va_up (va_up (va_up (va_up (va_up (va_up (va_up (va_up (va_up (va_up (va_up (va_up (va_up (va_up (va_up (va_up (va_up (va_up (va_up (va_up (va_up (va_up (va_up (va_up (va_up (va_up (va_up (va_up (va_up (va_up (va_up (va_up (va_up (va_up (va_up (va_up (va_up (va_up (va_up (va_up (va_up (va_up (va_up (va_up (va_up (va_up (va_up (va_up (va_up (va_up (va_up (va_up (va_up (va_up (va_up (va_up (va_up (va_up (va_up (va_up (va_up (va_up (va_up (va_up (va_up (va_up (va_up (va_up (va_up (va_up (va_up (va_up (va_up (va_up (va_up (va_up (va_up (va_up (va_up (va_up (va_up (va_up (va_up (va_up (va_up (va_up (va_up (va_up (va_up (va_up (va_up (va_up (va_up (va_up (va_up (va_up (va_up (va_up (va_up (va_up (va_up (va_up (va_up (va_up (va_up (va_up (va_up (va_up (va_up (va_up (va_up (va_up (va_up (va_up (va_up (va_up (va_up (va_up (va_up (va_up (va_up (va_up (va_up (va_up (va_up (va_up (va_up (va_up (va_up (va_up (va_up (va_up (va_up (va_up (va_up (va_up (va_up (va_up (va_up (va_up (va_up (va_up (va_up (va_up (va_up (va_up (va_up (va_up (va_up (va_up (va_up (va_up (va_up (va_up (va_up (va_up (va_up (va_up (va_up (va_up (va_up (va_up (va_up (va_up (va_up (va_up (va_up (va_up (va_up (va_up (va_up (va_up (va_up (va_up (va_up (va_up (va_up (va_up (va_up (va_up (va_up (va_up (va_up (va_up (va_up (va_up (va_up (va_up (va_up (va_up (va_up (va_up (va_up (va_up (va_up (va_up (va_up (va_up (va_up (va_up (va_up (va_up (va_up (va_up (va_up (va_up (va_up (va_up (va_up (va_up (va_up (va_up (va_up (va_up (va_up (va_up (va_up (va_up (va_up (va_up (va_up (va_up (va_up (va_up (va_up (va_up (va_up E 1 (.inr (8, [.null, .int 0]))) 2 (.inl (cy 0, 300, .inl (fun _ => 0)))) 1 (.inr (8, [.ref (B + 2), .int 0]))) 0 (.inr (11, [.ref (B + 1), .null, .null, .null, .null, .null, .null, .null, .null, .null]))) 3 (.inr (10, [.null, .int 0]))) 3 (.inr (10, [.ref (B + 1), .int 0]))) 0 (.inr (11, [.ref (B + 1), .ref (B + 3), .null, .null, .null, .null, .null, .null, .null, .null]))) 4 (.inr (5, [.null, .null, .int 0, .int 0, .int 0, .int 0]))) 5 (.inl (cy 4, 8, .inr (.inr (.inr (.inr (fun _ => none))))))) 4 (.inr (5, [.ref (B + 1), .ref (B + 5), .int 0, .int 0, .int 0, .int 0]))) 6 (.inr (4, [.null]))) 7 (.inl (cy 2, 8, .inl (fun _ => 0)))) 6 (.inr (4, [.ref (B + 7)]))) 5 (.inl (cy 4, 8, .inr (.inr (.inr (.inr (va_up (fun _ => none) 0 (some (B + 6))))))))) 8 (.inr (4, [.null]))) 9 (.inl (cy 2, 8, .inl (fun _ => 0)))) 8 (.inr (4, [.ref (B + 9)]))) 5 (.inl (cy 4, 8, .inr (.inr (.inr (.inr (va_up (va_up (fun _ => none) 0 (some (B + 6))) 1 (some (B + 8))))))))) 10 (.inr (4, [.null]))) 11 (.inl (cy 2, 8, .inl (fun _ => 0)))) 10 (.inr (4, [.ref (B + 11)]))) 5 (.inl (cy 4, 8, .inr (.inr (.inr (.inr (va_up (va_up (va_up (fun _ => none) 0 (some (B + 6))) 1 (some (B + 8))) 2 (some (B + 10))))))))) 12 (.inr (4, [.null]))) 13 (.inl (cy 2, 8, .inl (fun _ => 0)))) 12 (.inr (4, [.ref (B + 13)]))) 5 (.inl (cy 4, 8, .inr (.inr (.inr (.inr (va_up (va_up (va_up (va_up (fun _ => none) 0 (some (B + 6))) 1 (some (B + 8))) 2 (some (B + 10))) 3 (some (B + 12))))))))) 14 (.inr (4, [.null]))) 15 (.inl (cy 2, 8, .inl (fun _ => 0)))) 14 (.inr (4, [.ref (B + 15)]))) 5 (.inl (cy 4, 8, .inr (.inr (.inr (.inr (va_up (va_up (va_up (va_up (va_up (fun _ => none) 0 (some (B + 6))) 1 (some (B + 8))) 2 (some (B + 10))) 3 (some (B + 12))) 4 (some (B + 14))))))))) 16 (.inr (4, [.null]))) 17 (.inl (cy 2, 8, .inl (fun _ => 0)))) 16 (.inr (4, [.ref (B + 17)]))) 5 (.inl (cy 4, 8, .inr (.inr (.inr (.inr (va_up (va_up (va_up (va_up (va_up (va_up (fun _ => none) 0 (some (B + 6))) 1 (some (B + 8))) 2 (some (B + 10))) 3 (some (B + 12))) 4 (some (B + 14))) 5 (some (B + 16))))))))) 18 (.inr (4, [.null]))) 19 (.inl (cy 2, 8, .inl (fun _ => 0)))) 18 (.inr (4, [.ref (B + 19)]))) 5 (.inl (cy 4, 8, .inr (.inr (.inr (.inr (va_up (va_up (va_up (va_up (va_up (va_up (va_up (fun _ => none) 0 (some (B + 6))) 1 (some (B + 8))) 2 (some (B + 10))) 3 (some (B + 12))) 4 (some (B + 14))) 5 (some (B + 16))) 6 (some (B + 18))))))))) 20 (.inr (4, [.null]))) 21 (.inl (cy 2, 8, .inl (fun _ => 0)))) 20 (.inr (4, [.ref (B + 21)]))) 5 (.inl (cy 4, 8, .inr (.inr (.inr (.inr (va_up (va_up (va_up (va_up (va_up (va_up (va_up (va_up (fun _ => none) 0 (some (B + 6))) 1 (some (B + 8))) 2 (some (B + 10))) 3 (some (B + 12))) 4 (some (B + 14))) 5 (some (B + 16))) 6 (some (B + 18))) 7 (some (B + 20))))))))) 0 (.inr (11, [.ref (B + 1), .ref (B + 3), .ref (B + 4), .null, .null, .null, .null, .null, .null, .null]))) 22 (.inr (0, [.null, .null, .int 0, .null, .null, .null, .null, .int 0]))) 23 (.inr (1, [.int 0]))) 22 (.inr (0, [.ref (B + 23), .null, .int 0, .null, .null, .null, .null, .int 0]))) 24 (.inl (cy 4, 8, .inr (.inr (.inr (.inr (fun _ => none))))))) 22 (.inr (0, [.ref (B + 23), .ref (B + 24), .int 0, .null, .null, .null, .null, .int 0]))) 25 (.inl (cy 5, 9, .inr (.inr (.inr (.inr (fun _ => none))))))) 22 (.inr (0, [.ref (B + 23), .ref (B + 24), .int 0, .ref (B + 25), .null, .null, .null, .int 0]))) 26 (.inl (cy 2, 8, .inl (fun _ => 0)))) 22 (.inr (0, [.ref (B + 23), .ref (B + 24), .int 0, .ref (B + 25), .null, .ref (B + 26), .null, .int 0]))) 27 (.inl (cy 2, 8, .inl (fun _ => 0)))) 22 (.inr (0, [.ref (B + 23), .ref (B + 24), .int 0, .ref (B + 25), .null, .ref (B + 26), .ref (B + 27), .int 0]))) 28 (.inr (4, [.null]))) 29 (.inl (cy 2, 8, .inl (fun _ => 0)))) 28 (.inr (4, [.ref (B + 29)]))) 24 (.inl (cy 4, 8, .inr (.inr (.inr (.inr (va_up (fun _ => none) 0 (some (B + 28))))))))) 30 (.inr (4, [.null]))) 31 (.inl (cy 2, 8, .inl (fun _ => 0)))) 30 (.inr (4, [.ref (B + 31)]))) 24 (.inl (cy 4, 8, .inr (.inr (.inr (.inr (va_up (va_up (fun _ => none) 0 (some (B + 28))) 1 (some (B + 30))))))))) 32 (.inr (4, [.null]))) 33 (.inl (cy 2, 8, .inl (fun _ => 0)))) 32 (.inr (4, [.ref (B + 33)]))) 24 (.inl (cy 4, 8, .inr (.inr (.inr (.inr (va_up (va_up (va_up (fun _ => none) 0 (some (B + 28))) 1 (some (B + 30))) 2 (some (B + 32))))))))) 34 (.inr (4, [.null]))) 35 (.inl (cy 2, 8, .inl (fun _ => 0)))) 34 (.inr (4, [.ref (B + 35)]))) 24 (.inl (cy 4, 8, .inr (.inr (.inr (.inr (va_up (va_up (va_up (va_up (fun _ => none) 0 (some (B + 28))) 1 (some (B + 30))) 2 (some (B + 32))) 3 (some (B + 34))))))))) 36 (.inr (4, [.null]))) 37 (.inl (cy 2, 8, .inl (fun _ => 0)))) 36 (.inr (4, [.ref (B + 37)]))) 24 (.inl (cy 4, 8, .inr (.inr (.inr (.inr (va_up (va_up (va_up (va_up (va_up (fun _ => none) 0 (some (B + 28))) 1 (some (B + 30))) 2 (some (B + 32))) 3 (some (B + 34))) 4 (some (B + 36))))))))) 38 (.inr (4, [.null]))) 39 (.inl (cy 2, 8, .inl (fun _ => 0)))) 38 (.inr (4, [.ref (B + 39)]))) 24 (.inl (cy 4, 8, .inr (.inr (.inr (.inr (va_up (va_up (va_up (va_up (va_up (va_up (fun _ => none) 0 (some (B + 28))) 1 (some (B + 30))) 2 (some (B + 32))) 3 (some (B + 34))) 4 (some (B + 36))) 5 (some (B + 38))))))))) 40 (.inr (4, [.null]))) 41 (.inl (cy 2, 8, .inl (fun _ => 0)))) 40 (.inr (4, [.ref (B + 41)]))) 24 (.inl (cy 4, 8, .inr (.inr (.inr (.inr (va_up (va_up (va_up (va_up (va_up (va_up (va_up (fun _ => none) 0 (some (B + 28))) 1 (some (B + 30))) 2 (some (B + 32))) 3 (some (B + 34))) 4 (some (B + 36))) 5 (some (B + 38))) 6 (some (B + 40))))))))) 42 (.inr (4, [.null]))) 43 (.inl (cy 2, 8, .inl (fun _ => 0)))) 42 (.inr (4, [.ref (B + 43)]))) 24 (.inl (cy 4, 8, .inr (.inr (.inr (.inr (va_up (va_up (va_up (va_up (va_up (va_up (va_up (va_up (fun _ => none) 0 (some (B + 28))) 1 (some (B + 30))) 2 (some (B + 32))) 3 (some (B + 34))) 4 (some (B + 36))) 5 (some (B + 38))) 6 (some (B + 40))) 7 (some (B + 42))))))))) 44 (.inr (9, [.int 0, .int 0, .int 0, .int 0, .null, .null]))) 45 (.inl (cy 2, 12, .inl (fun _ => 0)))) 44 (.inr (9, [.int 0, .int 0, .int 0, .int 0, .ref (B + 45), .null]))) 46 (.inl (cy 2, 12, .inl (fun _ => 0)))) 44 (.inr (9, [.int 0, .int 0, .int 0, .int 0, .ref (B + 45), .ref (B + 46)]))) 25 (.inl (cy 5, 9, .inr (.inr (.inr (.inr (va_up (fun _ => none) 0 (some (B + 44))))))))) 47 (.inr (9, [.int 0, .int 0, .int 0, .int 0, .null, .null]))) 48 (.inl (cy 2, 12, .inl (fun _ => 0)))) 47 (.inr (9, [.int 0, .int 0, .int 0, .int 0, .ref (B + 48), .null]))) 49 (.inl (cy 2, 12, .inl (fun _ => 0)))) 47 (.inr (9, [.int 0, .int 0, .int 0, .int 0, .ref (B + 48), .ref (B + 49)]))) 25 (.inl (cy 5, 9, .inr (.inr (.inr (.inr (va_up (va_up (fun _ => none) 0 (some (B + 44))) 1 (some (B + 47))))))))) 50 (.inr (9, [.int 0, .int 0, .int 0, .int 0, .null, .null]))) 51 (.inl (cy 2, 12, .inl (fun _ => 0)))) 50 (.inr (9, [.int 0, .int 0, .int 0, .int 0, .ref (B + 51), .null]))) 52 (.inl (cy 2, 12, .inl (fun _ => 0)))) 50 (.inr (9, [.int 0, .int 0, .int 0, .int 0, .ref (B + 51), .ref (B + 52)]))) 25 (.inl (cy 5, 9, .inr (.inr (.inr (.inr (va_up (va_up (va_up (fun _ => none) 0 (some (B + 44))) 1 (some (B + 47))) 2 (some (B + 50))))))))) 53 (.inr (9, [.int 0, .int 0, .int 0, .int 0, .null, .null]))) 54 (.inl (cy 2, 12, .inl (fun _ => 0)))) 53 (.inr (9, [.int 0, .int 0, .int 0, .int 0, .ref (B + 54), .null]))) 55 (.inl (cy 2, 12, .inl (fun _ => 0)))) 53 (.inr (9, [.int 0, .int 0, .int 0, .int 0, .ref (B + 54), .ref (B + 55)]))) 25 (.inl (cy 5, 9, .inr (.inr (.inr (.inr (va_up (va_up (va_up (va_up (fun _ => none) 0 (some (B + 44))) 1 (some (B + 47))) 2 (some (B + 50))) 3 (some (B + 53))))))))) 56 (.inr (9, [.int 0, .int 0, .int 0, .int 0, .null, .null]))) 57 (.inl (cy 2, 12, .inl (fun _ => 0)))) 56 (.inr (9, [.int 0, .int 0, .int 0, .int 0, .ref (B + 57), .null]))) 58 (.inl (cy 2, 12, .inl (fun _ => 0)))) 56 (.inr (9, [.int 0, .int 0, .int 0, .int 0, .ref (B + 57), .ref (B + 58)]))) 25 (.inl (cy 5, 9, .inr (.inr (.inr (.inr (va_up (va_up (va_up (va_up (va_up (fun _ => none) 0 (some (B + 44))) 1 (some (B + 47))) 2 (some (B + 50))) 3 (some (B + 53))) 4 (some (B + 56))))))))) 59 (.inr (9, [.int 0, .int 0, .int 0, .int 0, .null, .null]))) 60 (.inl (cy 2, 12, .inl (fun _ => 0)))) 59 (.inr (9, [.int 0, .int 0, .int 0, .int 0, .ref (B + 60), .null]))) 61 (.inl (cy 2, 12, .inl (fun _ => 0)))) 59 (.inr (9, [.int 0, .int 0, .int 0, .int 0, .ref (B + 60), .ref (B + 61)]))) 25 (.inl (cy 5, 9, .inr (.inr (.inr (.inr (va_up (va_up (va_up (va_up (va_up (va_up (fun _ => none) 0 (some (B + 44))) 1 (some (B + 47))) 2 (some (B + 50))) 3 (some (B + 53))) 4 (some (B + 56))) 5 (some (B + 59))))))))) 62 (.inr (9, [.int 0, .int 0, .int 0, .int 0, .null, .null]))) 63 (.inl (cy 2, 12, .inl (fun _ => 0)))) 62 (.inr (9, [.int 0, .int 0, .int 0, .int 0, .ref (B + 63), .null]))) 64 (.inl (cy 2, 12, .inl (fun _ => 0)))) 62 (.inr (9, [.int 0, .int 0, .int 0, .int 0, .ref (B + 63), .ref (B + 64)]))) 25 (.inl (cy 5, 9, .inr (.inr (.inr (.inr (va_up (va_up (va_up (va_up (va_up (va_up (va_up (fun _ => none) 0 (some (B + 44))) 1 (some (B + 47))) 2 (some (B + 50))) 3 (some (B + 53))) 4 (some (B + 56))) 5 (some (B + 59))) 6 (some (B + 62))))))))) 65 (.inr (9, [.int 0, .int 0, .int 0, .int 0, .null, .null]))) 66 (.inl (cy 2, 12, .inl (fun _ => 0)))) 65 (.inr (9, [.int 0, .int 0, .int 0, .int 0, .ref (B + 66), .null]))) 67 (.inl (cy 2, 12, .inl (fun _ => 0)))) 65 (.inr (9, [.int 0, .int 0, .int 0, .int 0, .ref (B + 66), .ref (B + 67)]))) 25 (.inl (cy 5, 9, .inr (.inr (.inr (.inr (va_up (va_up (va_up (va_up (va_up (va_up (va_up (va_up (fun _ => none) 0 (some (B + 44))) 1 (some (B + 47))) 2 (some (B + 50))) 3 (some (B + 53))) 4 (some (B + 56))) 5 (some (B + 59))) 6 (some (B + 62))) 7 (some (B + 65))))))))) 68 (.inr (9, [.int 0, .int 0, .int 0, .int 0, .null, .null]))) 69 (.inl (cy 2, 12, .inl (fun _ => 0)))) 68 (.inr (9, [.int 0, .int 0, .int 0, .int 0, .ref (B + 69), .null]))) 70 (.inl (cy 2, 12, .inl (fun _ => 0)))) 68 (.inr (9, [.int 0, .int 0, .int 0, .int 0, .ref (B + 69), .ref (B + 70)]))) 25 (.inl (cy 5, 9, .inr (.inr (.inr (.inr (va_up (va_up (va_up (va_up (va_up (va_up (va_up (va_up (va_up (fun _ => none) 0 (some (B + 44))) 1 (some (B + 47))) 2 (some (B + 50))) 3 (some (B + 53))) 4 (some (B + 56))) 5 (some (B + 59))) 6 (some (B + 62))) 7 (some (B + 65))) 8 (some (B + 68))))))))) 22 (.inr (0, [.ref (B + 23), .ref (B + 24), .int 0, .ref (B + 25), .ref (B + 44), .ref (B + 26), .ref (B + 27), .int 0]))) 0 (.inr (11, [.ref (B + 1), .ref (B + 3), .ref (B + 4), .ref (B + 22), .ref (B + 44), .null, .null, .null, .null, .null]))) 71 (.inr (2, [.null, .int 0, .int 0]))) 72 (.inl (cy 5, 12, .inr (.inr (.inr (.inr (fun _ => none))))))) 71 (.inr (2, [.ref (B + 72), .int 0, .int 0]))) 73 (.inr (9, [.int 0, .int 0, .int 0, .int 0, .null, .null]))) 74 (.inl (cy 2, 12, .inl (fun _ => 0)))) 73 (.inr (9, [.int 0, .int 0, .int 0, .int 0, .ref (B + 74), .null]))) 75 (.inl (cy 2, 12, .inl (fun _ => 0)))) 73 (.inr (9, [.int 0, .int 0, .int 0, .int 0, .ref (B + 74), .ref (B + 75)]))) 72 (.inl (cy 5, 12, .inr (.inr (.inr (.inr (va_up (fun _ => none) 0 (some (B + 73))))))))) 76 (.inr (9, [.int 0, .int 0, .int 0, .int 0, .null, .null]))) 77 (.inl (cy 2, 12, .inl (fun _ => 0)))) 76 (.inr (9, [.int 0, .int 0, .int 0, .int 0, .ref (B + 77), .null]))) 78 (.inl (cy 2, 12, .inl (fun _ => 0)))) 76 (.inr (9, [.int 0, .int 0, .int 0, .int 0, .ref (B + 77), .ref (B + 78)]))) 72 (.inl (cy 5, 12, .inr (.inr (.inr (.inr (va_up (va_up (fun _ => none) 0 (some (B + 73))) 1 (some (B + 76))))))))) 79 (.inr (9, [.int 0, .int 0, .int 0, .int 0, .null, .null]))) 80 (.inl (cy 2, 12, .inl (fun _ => 0)))) 79 (.inr (9, [.int 0, .int 0, .int 0, .int 0, .ref (B + 80), .null]))) 81 (.inl (cy 2, 12, .inl (fun _ => 0)))) 79 (.inr (9, [.int 0, .int 0, .int 0, .int 0, .ref (B + 80), .ref (B + 81)]))) 72 (.inl (cy 5, 12, .inr (.inr (.inr (.inr (va_up (va_up (va_up (fun _ => none) 0 (some (B + 73))) 1 (some (B + 76))) 2 (some (B + 79))))))))) 82 (.inr (9, [.int 0, .int 0, .int 0, .int 0, .null, .null]))) 83 (.inl (cy 2, 12, .inl (fun _ => 0)))) 82 (.inr (9, [.int 0, .int 0, .int 0, .int 0, .ref (B + 83), .null]))) 84 (.inl (cy 2, 12, .inl (fun _ => 0)))) 82 (.inr (9, [.int 0, .int 0, .int 0, .int 0, .ref (B + 83), .ref (B + 84)]))) 72 (.inl (cy 5, 12, .inr (.inr (.inr (.inr (va_up (va_up (va_up (va_up (fun _ => none) 0 (some (B + 73))) 1 (some (B + 76))) 2 (some (B + 79))) 3 (some (B + 82))))))))) 85 (.inr (9, [.int 0, .int 0, .int 0, .int 0, .null, .null]))) 86 (.inl (cy 2, 12, .inl (fun _ => 0)))) 85 (.inr (9, [.int 0, .int 0, .int 0, .int 0, .ref (B + 86), .null]))) 87 (.inl (cy 2, 12, .inl (fun _ => 0)))) 85 (.inr (9, [.int 0, .int 0, .int 0, .int 0, .ref (B + 86), .ref (B + 87)]))) 72 (.inl (cy 5, 12, .inr (.inr (.inr (.inr (va_up (va_up (va_up (va_up (va_up (fun _ => none) 0 (some (B + 73))) 1 (some (B + 76))) 2 (some (B + 79))) 3 (some (B + 82))) 4 (some (B + 85))))))))) 88 (.inr (9, [.int 0, .int 0, .int 0, .int 0, .null, .null]))) 89 (.inl (cy 2, 12, .inl (fun _ => 0)))) 88 (.inr (9, [.int 0, .int 0, .int 0, .int 0, .ref (B + 89), .null]))) 90 (.inl (cy 2, 12, .inl (fun _ => 0)))) 88 (.inr (9, [.int 0, .int 0, .int 0, .int 0, .ref (B + 89), .ref (B + 90)]))) 72 (.inl (cy 5, 12, .inr (.inr (.inr (.inr (va_up (va_up (va_up (va_up (va_up (va_up (fun _ => none) 0 (some (B + 73))) 1 (some (B + 76))) 2 (some (B + 79))) 3 (some (B + 82))) 4 (some (B + 85))) 5 (some (B + 88))))))))) 91 (.inr (9, [.int 0, .int 0, .int 0, .int 0, .null, .null]))) 92 (.inl (cy 2, 12, .inl (fun _ => 0)))) 91 (.inr (9, [.int 0, .int 0, .int 0, .int 0, .ref (B + 92), .null]))) 93 (.inl (cy 2, 12, .inl (fun _ => 0)))) 91 (.inr (9, [.int 0, .int 0, .int 0, .int 0, .ref (B + 92), .ref (B + 93)]))) 72 (.inl (cy 5, 12, .inr (.inr (.inr (.inr (va_up (va_up (va_up (va_up (va_up (va_up (va_up (fun _ => none) 0 (some (B + 73))) 1 (some (B + 76))) 2 (some (B + 79))) 3 (some (B + 82))) 4 (some (B + 85))) 5 (some (B + 88))) 6 (some (B + 91))))))))) 94 (.inr (9, [.int 0, .int 0, .int 0, .int 0, .null, .null]))) 95 (.inl (cy 2, 12, .inl (fun _ => 0)))) 94 (.inr (9, [.int 0, .int 0, .int 0, .int 0, .ref (B + 95), .null]))) 96 (.inl (cy 2, 12, .inl (fun _ => 0)))) 94 (.inr (9, [.int 0, .int 0, .int 0, .int 0, .ref (B + 95), .ref (B + 96)]))) 72 (.inl (cy 5, 12, .inr (.inr (.inr (.inr (va_up (va_up (va_up (va_up (va_up (va_up (va_up (va_up (fun _ => none) 0 (some (B + 73))) 1 (some (B + 76))) 2 (some (B + 79))) 3 (some (B + 82))) 4 (some (B + 85))) 5 (some (B + 88))) 6 (some (B + 91))) 7 (some (B + 94))))))))) 97 (.inr (9, [.int 0, .int 0, .int 0, .int 0, .null, .null]))) 98 (.inl (cy 2, 12, .inl (fun _ => 0)))) 97 (.inr (9, [.int 0, .int 0, .int 0, .int 0, .ref (B + 98), .null]))) 99 (.inl (cy 2, 12, .inl (fun _ => 0)))) 97 (.inr (9, [.int 0, .int 0, .int 0, .int 0, .ref (B + 98), .ref (B + 99)]))) 72 (.inl (cy 5, 12, .inr (.inr (.inr (.inr (va_up (va_up (va_up (va_up (va_up (va_up (va_up (va_up (va_up (fun _ => none) 0 (some (B + 73))) 1 (some (B + 76))) 2 (some (B + 79))) 3 (some (B + 82))) 4 (some (B + 85))) 5 (some (B + 88))) 6 (some (B + 91))) 7 (some (B + 94))) 8 (some (B + 97))))))))) 100 (.inr (9, [.int 0, .int 0, .int 0, .int 0, .null, .null]))) 101 (.inl (cy 2, 12, .inl (fun _ => 0)))) 100 (.inr (9, [.int 0, .int 0, .int 0, .int 0, .ref (B + 101), .null]))) 102 (.inl (cy 2, 12, .inl (fun _ => 0)))) 100 (.inr (9, [.int 0, .int 0, .int 0, .int 0, .ref (B + 101), .ref (B + 102)]))) 72 (.inl (cy 5, 12, .inr (.inr (.inr (.inr (va_up (va_up (va_up (va_up (va_up (va_up (va_up (va_up (va_up (va_up (fun _ => none) 0 (some (B + 73))) 1 (some (B + 76))) 2 (some (B + 79))) 3 (some (B + 82))) 4 (some (B + 85))) 5 (some (B + 88))) 6 (some (B + 91))) 7 (some (B + 94))) 8 (some (B + 97))) 9 (some (B + 100))))))))) 103 (.inr (9, [.int 0, .int 0, .int 0, .int 0, .null, .null]))) 104 (.inl (cy 2, 12, .inl (fun _ => 0)))) 103 (.inr (9, [.int 0, .int 0, .int 0, .int 0, .ref (B + 104), .null]))) 105 (.inl (cy 2, 12, .inl (fun _ => 0)))) 103 (.inr (9, [.int 0, .int 0, .int 0, .int 0, .ref (B + 104), .ref (B + 105)]))) 72 (.inl (cy 5, 12, .inr (.inr (.inr (.inr (va_up (va_up (va_up (va_up (va_up (va_up (va_up (va_up (va_up (va_up (va_up (fun _ => none) 0 (some (B + 73))) 1 (some (B + 76))) 2 (some (B + 79))) 3 (some (B + 82))) 4 (some (B + 85))) 5 (some (B + 88))) 6 (some (B + 91))) 7 (some (B + 94))) 8 (some (B + 97))) 9 (some (B + 100))) 10 (some (B + 103))))))))) 106 (.inr (9, [.int 0, .int 0, .int 0, .int 0, .null, .null]))) 107 (.inl (cy 2, 12, .inl (fun _ => 0)))) 106 (.inr (9, [.int 0, .int 0, .int 0, .int 0, .ref (B + 107), .null]))) 108 (.inl (cy 2, 12, .inl (fun _ => 0)))) 106 (.inr (9, [.int 0, .int 0, .int 0, .int 0, .ref (B + 107), .ref (B + 108)]))) 72 (.inl (cy 5, 12, .inr (.inr (.inr (.inr (va_up (va_up (va_up (va_up (va_up (va_up (va_up (va_up (va_up (va_up (va_up (va_up (fun _ => none) 0 (some (B + 73))) 1 (some (B + 76))) 2 (some (B + 79))) 3 (some (B + 82))) 4 (some (B + 85))) 5 (some (B + 88))) 6 (some (B + 91))) 7 (some (B + 94))) 8 (some (B + 97))) 9 (some (B + 100))) 10 (some (B + 103))) 11 (some (B + 106))))))))) 0 (.inr (11, [.ref (B + 1), .ref (B + 3), .ref (B + 4), .ref (B + 22), .ref (B + 44), .ref (B + 71), .null, .null, .null, .null]))) 109 (.inr (3, [.int 0, .int 0, .int 0, .null, .null, .null, .null]))) 110 (.inl (cy 2, 6, .inl (fun _ => 0)))) 109 (.inr (3, [.int 0, .int 0, .int 0, .ref (B + 110), .null, .null, .null]))) 111 (.inl (cy 5, 7, .inr (.inr (.inr (.inr (fun _ => none))))))) 109 (.inr (3, [.int 0, .int 0, .int 0, .ref (B + 110), .ref (B + 111), .null, .null]))) 112 (.inl (cy 3, 720, .inr (.inl (fun _ => 0))))) 109 (.inr (3, [.int 0, .int 0, .int 0, .ref (B + 110), .ref (B + 111), .ref (B + 112), .null]))) 113 (.inl (cy 3, 720, .inr (.inl (fun _ => 0))))) 109 (.inr (3, [.int 0, .int 0, .int 0, .ref (B + 110), .ref (B + 111), .ref (B + 112), .ref (B + 113)]))) 114 (.inr (9, [.int 0, .int 0, .int 0, .int 0, .null, .null]))) 115 (.inl (cy 2, 12, .inl (fun _ => 0)))) 114 (.inr (9, [.int 0, .int 0, .int 0, .int 0, .ref (B + 115), .null]))) 116 (.inl (cy 2, 12, .inl (fun _ => 0)))) 114 (.inr (9, [.int 0, .int 0, .int 0, .int 0, .ref (B + 115), .ref (B + 116)]))) 111 (.inl (cy 5, 7, .inr (.inr (.inr (.inr (va_up (fun _ => none) 0 (some (B + 114))))))))) 117 (.inr (9, [.int 0, .int 0, .int 0, .int 0, .null, .null]))) 118 (.inl (cy 2, 12, .inl (fun _ => 0)))) 117 (.inr (9, [.int 0, .int 0, .int 0, .int 0, .ref (B + 118), .null]))) 119 (.inl (cy 2, 12, .inl (fun _ => 0)))) 117 (.inr (9, [.int 0, .int 0, .int 0, .int 0, .ref (B + 118), .ref (B + 119)]))) 111 (.inl (cy 5, 7, .inr (.inr (.inr (.inr (va_up (va_up (fun _ => none) 0 (some (B + 114))) 1 (some (B + 117))))))))) 120 (.inr (9, [.int 0, .int 0, .int 0, .int 0, .null, .null]))) 121 (.inl (cy 2, 12, .inl (fun _ => 0)))) 120 (.inr (9, [.int 0, .int 0, .int 0, .int 0, .ref (B + 121), .null]))) 122 (.inl (cy 2, 12, .inl (fun _ => 0)))) 120 (.inr (9, [.int 0, .int 0, .int 0, .int 0, .ref (B + 121), .ref (B + 122)]))) 111 (.inl (cy 5, 7, .inr (.inr (.inr (.inr (va_up (va_up (va_up (fun _ => none) 0 (some (B + 114))) 1 (some (B + 117))) 2 (some (B + 120))))))))) 123 (.inr (9, [.int 0, .int 0, .int 0, .int 0, .null, .null]))) 124 (.inl (cy 2, 12, .inl (fun _ => 0)))) 123 (.inr (9, [.int 0, .int 0, .int 0, .int 0, .ref (B + 124), .null]))) 125 (.inl (cy 2, 12, .inl (fun _ => 0)))) 123 (.inr (9, [.int 0, .int 0, .int 0, .int 0, .ref (B + 124), .ref (B + 125)]))) 111 (.inl (cy 5, 7, .inr (.inr (.inr (.inr (va_up (va_up (va_up (va_up (fun _ => none) 0 (some (B + 114))) 1 (some (B + 117))) 2 (some (B + 120))) 3 (some (B + 123))))))))) 126 (.inr (9, [.int 0, .int 0, .int 0, .int 0, .null, .null]))) 127 (.inl (cy 2, 12, .inl (fun _ => 0)))) 126 (.inr (9, [.int 0, .int 0, .int 0, .int 0, .ref (B + 127), .null]))) 128 (.inl (cy 2, 12, .inl (fun _ => 0)))) 126 (.inr (9, [.int 0, .int 0, .int 0, .int 0, .ref (B + 127), .ref (B + 128)]))) 111 (.inl (cy 5, 7, .inr (.inr (.inr (.inr (va_up (va_up (va_up (va_up (va_up (fun _ => none) 0 (some (B + 114))) 1 (some (B + 117))) 2 (some (B + 120))) 3 (some (B + 123))) 4 (some (B + 126))))))))) 129 (.inr (9, [.int 0, .int 0, .int 0, .int 0, .null, .null]))) 130 (.inl (cy 2, 12, .inl (fun _ => 0)))) 129 (.inr (9, [.int 0, .int 0, .int 0, .int 0, .ref (B + 130), .null]))) 131 (.inl (cy 2, 12, .inl (fun _ => 0)))) 129 (.inr (9, [.int 0, .int 0, .int 0, .int 0, .ref (B + 130), .ref (B + 131)]))) 111 (.inl (cy 5, 7, .inr (.inr (.inr (.inr (va_up (va_up (va_up (va_up (va_up (va_up (fun _ => none) 0 (some (B + 114))) 1 (some (B + 117))) 2 (some (B + 120))) 3 (some (B + 123))) 4 (some (B + 126))) 5 (some (B + 129))))))))) 132 (.inr (9, [.int 0, .int 0, .int 0, .int 0, .null, .null]))) 133 (.inl (cy 2, 12, .inl (fun _ => 0)))) 132 (.inr (9, [.int 0, .int 0, .int 0, .int 0, .ref (B + 133), .null]))) 134 (.inl (cy 2, 12, .inl (fun _ => 0)))) 132 (.inr (9, [.int 0, .int 0, .int 0, .int 0, .ref (B + 133), .ref (B + 134)]))) 111 (.inl (cy 5, 7, .inr (.inr (.inr (.inr (va_up (va_up (va_up (va_up (va_up (va_up (va_up (fun _ => none) 0 (some (B + 114))) 1 (some (B + 117))) 2 (some (B + 120))) 3 (some (B + 123))) 4 (some (B + 126))) 5 (some (B + 129))) 6 (some (B + 132))))))))) 0 (.inr (11, [.ref (B + 1), .ref (B + 3), .ref (B + 4), .ref (B + 22), .ref (B + 44), .ref (B + 71), .ref (B + 109), .null, .null, .null]))) 135 (.inr (6, [.int 0, .null, .null, .null]))) 136 (.inl (cy 2, 7, .inl (fun _ => 0)))) 135 (.inr (6, [.int 0, .ref (B + 136), .null, .null]))) 137 (.inl (cy 2, 7, .inl (fun _ => 0)))) 135 (.inr (6, [.int 0, .ref (B + 136), .ref (B + 137), .null]))) 138 (.inr (9, [.int 0, .int 0, .int 0, .int 0, .null, .null]))) 139 (.inl (cy 2, 12, .inl (fun _ => 0)))) 138 (.inr (9, [.int 0, .int 0, .int 0, .int 0, .ref (B + 139), .null]))) 140 (.inl (cy 2, 12, .inl (fun _ => 0)))) 138 (.inr (9, [.int 0, .int 0, .int 0, .int 0, .ref (B + 139), .ref (B + 140)]))) 135 (.inr (6, [.int 0, .ref (B + 136), .ref (B + 137), .ref (B + 138)]))) 0 (.inr (11, [.ref (B + 1), .ref (B + 3), .ref (B + 4), .ref (B + 22), .ref (B + 44), .ref (B + 71), .ref (B + 109), .ref (B + 135), .null, .null]))) 141 (.inr (7, [.null, .int 0]))) 142 (.inl (cy 1, 256, .inl (fun _ => 0)))) 141 (.inr (7, [.ref (B + 142), .int 0]))) 0 (.inr (11, [.ref (B + 1), .ref (B + 3), .ref (B + 4), .ref (B + 22), .ref (B + 44), .ref (B + 71), .ref (B + 109), .ref (B + 135), .ref (B + 141), .null]))) 143 (.inr (9, [.int 0, .int 0, .int 0, .int 0, .null, .null]))) 144 (.inl (cy 2, 12, .inl (fun _ => 0)))) 143 (.inr (9, [.int 0, .int 0, .int 0, .int 0, .ref (B + 144), .null]))) 145 (.inl (cy 2, 12, .inl (fun _ => 0)))) 143 (.inr (9, [.int 0, .int 0, .int 0, .int 0, .ref (B + 144), .ref (B + 145)]))) 0 (.inr (11, [.ref (B + 1), .ref (B + 3), .ref (B + 4), .ref (B + 22), .ref (B + 44), .ref (B + 71), .ref (B + 109), .ref (B + 135), .ref (B + 141), .ref (B + 143)]))) := by
  refine n_start (by decide) (Nat.le_of_ble_eq_true rfl) rfl ?_
  intro p e s m below meth c ls F hr hlocks hin w hl
  have F : CallFix p m c cX11_init 1 s _ TB RX11 := F
  have hx := F.1
  have hb := F.2.1
  have hl : lv_has ls 1 [(0, .ref (B + 0))] := hl
  refine lv_aload_n hx hb dX11_init_0 rfl (lv_at hl 0 rfl) ?_
  refine n_obj F hl.1 tb_722 tb_723 tk_obj dX11_init_1 (Nat.le_of_ble_eq_true rfl) (Nat.le_of_ble_eq_true rfl) ?_
  refine lv_aload_n hx hb dX11_init_4 rfl (lv_at hl 0 rfl) ?_
  refine n_new F w (C := RX8) (T := TX8) (N := 2) (ci := 8) (fs := [.null, .int 0]) tyX8 tyX8_ok inT8 tb_725 tb_726 tb_297 rfl nf_8 (Nat.le_of_ble_eq_true rfl) (Nat.le_of_ble_eq_true rfl) (c1 := 1) (s1 := 2) (n1 := 2) rfl rfl rfl dX11_init_5 (fun H w => ?_)
  refine lv_dup hx hb dX11_init_8 rfl ?_
  refine n_callN F w (b := 1) (As := []) (rest := [.ref (B + 1), .ref (B + 0)]) (n_X8_init_1 (up_at)) gc_X8_init rfl tb_297 (by decide) tb_729 hs_X8_init ⟨(Nat.le_of_ble_eq_true rfl), (Nat.le_of_ble_eq_true rfl)⟩ hl.1 rfl (Nat.le_of_ble_eq_true rfl) ⟨(Nat.le_of_ble_eq_true rfl), (Nat.le_of_ble_eq_true rfl)⟩ (k1 := 2) (k2 := 302) rfl rfl dX11_init_9 (fun H locs w => ?_)
  refine n_putF F w (a := 0) (C := RX11) (T := TX11) (N := 10) (ci := 11) (k := 0) (x := .ref (B + 1)) (ty := .object "ToneLines$Tape") (fs1 := [.ref (B + 1), .null, .null, .null, .null, .null, .null, .null, .null, .null]) tyX11 tyX11_ok nmX11 (by decide) ((up_ne (by decide)).trans ((up_ne (by decide)).trans ((up_ne (by decide)).trans h0))) rfl rfl inT11 (by decide) rfl tb_292 rfl hin rfl (by decide +kernel) rfl rfl (Nat.le_of_ble_eq_true rfl) dX11_init_12 (fun H locs w => ?_)
  refine lv_aload_n hx hb dX11_init_15 rfl (lv_at hl 0 rfl) ?_
  refine n_new F w (C := RX10) (T := TX10) (N := 2) (ci := 10) (fs := [.null, .int 0]) tyX10 tyX10_ok inT10 tb_730 tb_731 tb_452 rfl nf_10 (Nat.le_of_ble_eq_true rfl) (Nat.le_of_ble_eq_true rfl) (c1 := 3) (s1 := 304) (n1 := 4) rfl rfl rfl dX11_init_16 (fun H w => ?_)
  refine lv_dup hx hb dX11_init_19 rfl ?_
  refine lv_aload_n hx hb dX11_init_20 rfl (lv_at hl 0 rfl) ?_
  refine n_get F w (a := 0) (C := RX11) (T := TX11) (N := 10) (ci := 11) (k := 0) (by decide) ((up_ne (by decide)).trans up_at) rfl inT11 (by decide) rfl tb_292 rfl dX11_init_21 ?_
  refine n_callI F w (b := 3) (As := [.ref (B + 1)]) (rest := [.ref (B + 3), .ref (B + 0)]) (n_X10_init_2 (up_at)) gc_X10_init rfl tb_452 tb_733 tb_734 hs_X10_init ⟨(Nat.le_of_ble_eq_true rfl), (Nat.le_of_ble_eq_true rfl)⟩ hl.1 rfl (Nat.le_of_ble_eq_true rfl) ⟨(Nat.le_of_ble_eq_true rfl), (Nat.le_of_ble_eq_true rfl)⟩ (k1 := 3) (k2 := 304) rfl rfl dX11_init_24 (fun H locs w => ?_)
  refine n_putF F w (a := 0) (C := RX11) (T := TX11) (N := 10) (ci := 11) (k := 1) (x := .ref (B + 3)) (ty := .object "ToneLines$WordReader") (fs1 := [.ref (B + 1), .ref (B + 3), .null, .null, .null, .null, .null, .null, .null, .null]) tyX11 tyX11_ok nmX11 (by decide) ((up_ne (by decide)).trans ((up_ne (by decide)).trans up_at)) rfl rfl inT11 (by decide) rfl tb_515 rfl hin rfl (by decide +kernel) rfl rfl (Nat.le_of_ble_eq_true rfl) dX11_init_27 (fun H locs w => ?_)
  refine lv_aload_n hx hb dX11_init_30 rfl (lv_at hl 0 rfl) ?_
  refine n_new F w (C := RX5) (T := TX5) (N := 6) (ci := 5) (fs := [.null, .null, .int 0, .int 0, .int 0, .int 0]) tyX5 tyX5_ok inT5 tb_735 tb_736 tb_477 rfl nf_5 (Nat.le_of_ble_eq_true rfl) (Nat.le_of_ble_eq_true rfl) (c1 := 4) (s1 := 310) (n1 := 5) rfl rfl rfl dX11_init_31 (fun H w => ?_)
  refine lv_dup hx hb dX11_init_34 rfl ?_
  refine lv_aload_n hx hb dX11_init_35 rfl (lv_at hl 0 rfl) ?_
  refine n_get F w (a := 0) (C := RX11) (T := TX11) (N := 10) (ci := 11) (k := 0) (by decide) ((up_ne (by decide)).trans up_at) rfl inT11 (by decide) rfl tb_292 rfl dX11_init_36 ?_
  refine n_callI F w (b := 4) (As := [.ref (B + 1)]) (rest := [.ref (B + 4), .ref (B + 0)]) (n_X5_init_11 (up_at)) gc_X5_init rfl tb_477 tb_743 tb_744 hs_X5_init ⟨(Nat.le_of_ble_eq_true rfl), (Nat.le_of_ble_eq_true rfl)⟩ hl.1 rfl (Nat.le_of_ble_eq_true rfl) ⟨(Nat.le_of_ble_eq_true rfl), (Nat.le_of_ble_eq_true rfl)⟩ (k1 := 21) (k2 := 390) rfl rfl dX11_init_39 (fun H locs w => ?_)
  refine n_putF F w (a := 0) (C := RX11) (T := TX11) (N := 10) (ci := 11) (k := 2) (x := .ref (B + 4)) (ty := .object "ToneLines$RuleReader") (fs1 := [.ref (B + 1), .ref (B + 3), .ref (B + 4), .null, .null, .null, .null, .null, .null, .null]) tyX11 tyX11_ok nmX11 (by decide) ((up_ne (by decide)).trans ((up_ne (by decide)).trans ((up_ne (by decide)).trans ((up_ne (by decide)).trans ((up_ne (by decide)).trans ((up_ne (by decide)).trans ((up_ne (by decide)).trans ((up_ne (by decide)).trans ((up_ne (by decide)).trans ((up_ne (by decide)).trans ((up_ne (by decide)).trans ((up_ne (by decide)).trans ((up_ne (by decide)).trans ((up_ne (by decide)).trans ((up_ne (by decide)).trans ((up_ne (by decide)).trans ((up_ne (by decide)).trans ((up_ne (by decide)).trans ((up_ne (by decide)).trans ((up_ne (by decide)).trans ((up_ne (by decide)).trans ((up_ne (by decide)).trans ((up_ne (by decide)).trans ((up_ne (by decide)).trans ((up_ne (by decide)).trans ((up_ne (by decide)).trans ((up_ne (by decide)).trans ((up_ne (by decide)).trans ((up_ne (by decide)).trans ((up_ne (by decide)).trans ((up_ne (by decide)).trans ((up_ne (by decide)).trans ((up_ne (by decide)).trans ((up_ne (by decide)).trans ((up_ne (by decide)).trans up_at))))))))))))))))))))))))))))))))))) rfl rfl inT11 (by decide) rfl tb_519 rfl hin rfl (by decide +kernel) rfl rfl (Nat.le_of_ble_eq_true rfl) dX11_init_42 (fun H locs w => ?_)
  refine lv_aload_n hx hb dX11_init_45 rfl (lv_at hl 0 rfl) ?_
  refine n_new F w (C := RX0) (T := TX0) (N := 8) (ci := 0) (fs := [.null, .null, .int 0, .null, .null, .null, .null, .int 0]) tyX0 tyX0_ok inT0 tb_745 tb_746 tb_187 rfl nf_0 (Nat.le_of_ble_eq_true rfl) (Nat.le_of_ble_eq_true rfl) (c1 := 22) (s1 := 398) (n1 := 23) rfl rfl rfl dX11_init_46 (fun H w => ?_)
  refine lv_dup hx hb dX11_init_49 rfl ?_
  refine n_callI F w (b := 22) (As := []) (rest := [.ref (B + 22), .ref (B + 0)]) (n_X0_init_30 (up_at)) gc_X0_init rfl tb_187 tb_757 tb_758 hs_X0_init ⟨(Nat.le_of_ble_eq_true rfl), (Nat.le_of_ble_eq_true rfl)⟩ hl.1 rfl (Nat.le_of_ble_eq_true rfl) ⟨(Nat.le_of_ble_eq_true rfl), (Nat.le_of_ble_eq_true rfl)⟩ (k1 := 70) (k2 := 774) rfl rfl dX11_init_50 (fun H locs w => ?_)
  refine n_putF F w (a := 0) (C := RX11) (T := TX11) (N := 10) (ci := 11) (k := 3) (x := .ref (B + 22)) (ty := .object "ToneLines$Derivation") (fs1 := [.ref (B + 1), .ref (B + 3), .ref (B + 4), .ref (B + 22), .null, .null, .null, .null, .null, .null]) tyX11 tyX11_ok nmX11 (by decide) ((up_ne (by decide)).trans ((up_ne (by decide)).trans ((up_ne (by decide)).trans ((up_ne (by decide)).trans ((up_ne (by decide)).trans ((up_ne (by decide)).trans ((up_ne (by decide)).trans ((up_ne (by decide)).trans ((up_ne (by decide)).trans ((up_ne (by decide)).trans ((up_ne (by decide)).trans ((up_ne (by decide)).trans ((up_ne (by decide)).trans ((up_ne (by decide)).trans ((up_ne (by decide)).trans ((up_ne (by decide)).trans ((up_ne (by decide)).trans ((up_ne (by decide)).trans ((up_ne (by decide)).trans ((up_ne (by decide)).trans ((up_ne (by decide)).trans ((up_ne (by decide)).trans ((up_ne (by decide)).trans ((up_ne (by decide)).trans ((up_ne (by decide)).trans ((up_ne (by decide)).trans ((up_ne (by decide)).trans ((up_ne (by decide)).trans ((up_ne (by decide)).trans ((up_ne (by decide)).trans ((up_ne (by decide)).trans ((up_ne (by decide)).trans ((up_ne (by decide)).trans ((up_ne (by decide)).trans ((up_ne (by decide)).trans ((up_ne (by decide)).trans ((up_ne (by decide)).trans ((up_ne (by decide)).trans ((up_ne (by decide)).trans ((up_ne (by decide)).trans ((up_ne (by decide)).trans ((up_ne (by decide)).trans ((up_ne (by decide)).trans ((up_ne (by decide)).trans ((up_ne (by decide)).trans ((up_ne (by decide)).trans ((up_ne (by decide)).trans ((up_ne (by decide)).trans ((up_ne (by decide)).trans ((up_ne (by decide)).trans ((up_ne (by decide)).trans ((up_ne (by decide)).trans ((up_ne (by decide)).trans ((up_ne (by decide)).trans ((up_ne (by decide)).trans ((up_ne (by decide)).trans ((up_ne (by decide)).trans ((up_ne (by decide)).trans ((up_ne (by decide)).trans ((up_ne (by decide)).trans ((up_ne (by decide)).trans ((up_ne (by decide)).trans ((up_ne (by decide)).trans ((up_ne (by decide)).trans ((up_ne (by decide)).trans ((up_ne (by decide)).trans ((up_ne (by decide)).trans ((up_ne (by decide)).trans ((up_ne (by decide)).trans ((up_ne (by decide)).trans ((up_ne (by decide)).trans ((up_ne (by decide)).trans ((up_ne (by decide)).trans ((up_ne (by decide)).trans ((up_ne (by decide)).trans ((up_ne (by decide)).trans ((up_ne (by decide)).trans ((up_ne (by decide)).trans ((up_ne (by decide)).trans ((up_ne (by decide)).trans ((up_ne (by decide)).trans ((up_ne (by decide)).trans ((up_ne (by decide)).trans ((up_ne (by decide)).trans ((up_ne (by decide)).trans ((up_ne (by decide)).trans ((up_ne (by decide)).trans ((up_ne (by decide)).trans ((up_ne (by decide)).trans ((up_ne (by decide)).trans ((up_ne (by decide)).trans ((up_ne (by decide)).trans ((up_ne (by decide)).trans ((up_ne (by decide)).trans ((up_ne (by decide)).trans ((up_ne (by decide)).trans ((up_ne (by decide)).trans ((up_ne (by decide)).trans up_at)))))))))))))))))))))))))))))))))))))))))))))))))))))))))))))))))))))))))))))))))))))))))))))))))) rfl rfl inT11 (by decide) rfl tb_273 rfl hin rfl (by decide +kernel) rfl rfl (Nat.le_of_ble_eq_true rfl) dX11_init_53 (fun H locs w => ?_)
  refine lv_aload_n hx hb dX11_init_56 rfl (lv_at hl 0 rfl) ?_
  refine lv_aload_n hx hb dX11_init_57 rfl (lv_at hl 0 rfl) ?_
  refine n_get F w (a := 0) (C := RX11) (T := TX11) (N := 10) (ci := 11) (k := 3) (by decide) (up_at) rfl inT11 (by decide) rfl tb_273 rfl dX11_init_58 ?_
  refine n_get F w (a := 22) (C := RX0) (T := TX0) (N := 8) (ci := 0) (k := 4) (by decide) ((up_ne (by decide)).trans up_at) rfl inT0 (by decide) rfl tb_759 rfl dX11_init_61 ?_
  refine n_putF F w (a := 0) (C := RX11) (T := TX11) (N := 10) (ci := 11) (k := 4) (x := .ref (B + 44)) (ty := .object "ToneLines$Word") (fs1 := [.ref (B + 1), .ref (B + 3), .ref (B + 4), .ref (B + 22), .ref (B + 44), .null, .null, .null, .null, .null]) tyX11 tyX11_ok nmX11 (by decide) (up_at) rfl rfl inT11 (by decide) rfl tb_280 rfl hin rfl (by decide +kernel) rfl rfl (Nat.le_of_ble_eq_true rfl) dX11_init_64 (fun H locs w => ?_)
  rw [up_up] at w
  refine lv_aload_n hx hb dX11_init_67 rfl (lv_at hl 0 rfl) ?_
  refine n_new F w (C := RX2) (T := TX2) (N := 3) (ci := 2) (fs := [.null, .int 0, .int 0]) tyX2 tyX2_ok inT2 tb_760 tb_761 tb_284 rfl nf_2 (Nat.le_of_ble_eq_true rfl) (Nat.le_of_ble_eq_true rfl) (c1 := 71) (s1 := 777) (n1 := 72) rfl rfl rfl dX11_init_68 (fun H w => ?_)
  refine lv_dup hx hb dX11_init_71 rfl ?_
  refine n_callI F w (b := 71) (As := []) (rest := [.ref (B + 71), .ref (B + 0)]) (n_X2_init_43 (up_at)) gc_X2_init rfl tb_284 tb_764 tb_765 hs_X2_init ⟨(Nat.le_of_ble_eq_true rfl), (Nat.le_of_ble_eq_true rfl)⟩ hl.1 rfl (Nat.le_of_ble_eq_true rfl) ⟨(Nat.le_of_ble_eq_true rfl), (Nat.le_of_ble_eq_true rfl)⟩ (k1 := 108) (k2 := 1149) rfl rfl dX11_init_72 (fun H locs w => ?_)
  refine n_putF F w (a := 0) (C := RX11) (T := TX11) (N := 10) (ci := 11) (k := 5) (x := .ref (B + 71)) (ty := .object "ToneLines$History") (fs1 := [.ref (B + 1), .ref (B + 3), .ref (B + 4), .ref (B + 22), .ref (B + 44), .ref (B + 71), .null, .null, .null, .null]) tyX11 tyX11_ok nmX11 (by decide) ((up_ne (by decide)).trans ((up_ne (by decide)).trans ((up_ne (by decide)).trans ((up_ne (by decide)).trans ((up_ne (by decide)).trans ((up_ne (by decide)).trans ((up_ne (by decide)).trans ((up_ne (by decide)).trans ((up_ne (by decide)).trans ((up_ne (by decide)).trans ((up_ne (by decide)).trans ((up_ne (by decide)).trans ((up_ne (by decide)).trans ((up_ne (by decide)).trans ((up_ne (by decide)).trans ((up_ne (by decide)).trans ((up_ne (by decide)).trans ((up_ne (by decide)).trans ((up_ne (by decide)).trans ((up_ne (by decide)).trans ((up_ne (by decide)).trans ((up_ne (by decide)).trans ((up_ne (by decide)).trans ((up_ne (by decide)).trans ((up_ne (by decide)).trans ((up_ne (by decide)).trans ((up_ne (by decide)).trans ((up_ne (by decide)).trans ((up_ne (by decide)).trans ((up_ne (by decide)).trans ((up_ne (by decide)).trans ((up_ne (by decide)).trans ((up_ne (by decide)).trans ((up_ne (by decide)).trans ((up_ne (by decide)).trans ((up_ne (by decide)).trans ((up_ne (by decide)).trans ((up_ne (by decide)).trans ((up_ne (by decide)).trans ((up_ne (by decide)).trans ((up_ne (by decide)).trans ((up_ne (by decide)).trans ((up_ne (by decide)).trans ((up_ne (by decide)).trans ((up_ne (by decide)).trans ((up_ne (by decide)).trans ((up_ne (by decide)).trans ((up_ne (by decide)).trans ((up_ne (by decide)).trans ((up_ne (by decide)).trans ((up_ne (by decide)).trans ((up_ne (by decide)).trans ((up_ne (by decide)).trans ((up_ne (by decide)).trans ((up_ne (by decide)).trans ((up_ne (by decide)).trans ((up_ne (by decide)).trans ((up_ne (by decide)).trans ((up_ne (by decide)).trans ((up_ne (by decide)).trans ((up_ne (by decide)).trans ((up_ne (by decide)).trans ((up_ne (by decide)).trans ((up_ne (by decide)).trans ((up_ne (by decide)).trans ((up_ne (by decide)).trans ((up_ne (by decide)).trans ((up_ne (by decide)).trans ((up_ne (by decide)).trans ((up_ne (by decide)).trans ((up_ne (by decide)).trans ((up_ne (by decide)).trans ((up_ne (by decide)).trans ((up_ne (by decide)).trans ((up_ne (by decide)).trans up_at))))))))))))))))))))))))))))))))))))))))))))))))))))))))))))))))))))))))))) rfl rfl inT11 (by decide) rfl tb_279 rfl hin rfl (by decide +kernel) rfl rfl (Nat.le_of_ble_eq_true rfl) dX11_init_75 (fun H locs w => ?_)
  refine lv_aload_n hx hb dX11_init_78 rfl (lv_at hl 0 rfl) ?_
  refine n_new F w (C := RX3) (T := TX3) (N := 7) (ci := 3) (fs := [.int 0, .int 0, .int 0, .null, .null, .null, .null]) tyX3 tyX3_ok inT3 tb_766 tb_767 tb_214 rfl nf_3 (Nat.le_of_ble_eq_true rfl) (Nat.le_of_ble_eq_true rfl) (c1 := 109) (s1 := 1156) (n1 := 110) rfl rfl rfl dX11_init_79 (fun H w => ?_)
  refine lv_dup hx hb dX11_init_82 rfl ?_
  refine n_callI F w (b := 109) (As := []) (rest := [.ref (B + 109), .ref (B + 0)]) (n_X3_init_51 (up_at)) gc_X3_init rfl tb_214 tb_771 tb_772 hs_X3_init ⟨(Nat.le_of_ble_eq_true rfl), (Nat.le_of_ble_eq_true rfl)⟩ hl.1 rfl (Nat.le_of_ble_eq_true rfl) ⟨(Nat.le_of_ble_eq_true rfl), (Nat.le_of_ble_eq_true rfl)⟩ (k1 := 134) (k2 := 2819) rfl rfl dX11_init_83 (fun H locs w => ?_)
  refine n_putF F w (a := 0) (C := RX11) (T := TX11) (N := 10) (ci := 11) (k := 6) (x := .ref (B + 109)) (ty := .object "ToneLines$Orders") (fs1 := [.ref (B + 1), .ref (B + 3), .ref (B + 4), .ref (B + 22), .ref (B + 44), .ref (B + 71), .ref (B + 109), .null, .null, .null]) tyX11 tyX11_ok nmX11 (by decide) ((up_ne (by decide)).trans ((up_ne (by decide)).trans ((up_ne (by decide)).trans ((up_ne (by decide)).trans ((up_ne (by decide)).trans ((up_ne (by decide)).trans ((up_ne (by decide)).trans ((up_ne (by decide)).trans ((up_ne (by decide)).trans ((up_ne (by decide)).trans ((up_ne (by decide)).trans ((up_ne (by decide)).trans ((up_ne (by decide)).trans ((up_ne (by decide)).trans ((up_ne (by decide)).trans ((up_ne (by decide)).trans ((up_ne (by decide)).trans ((up_ne (by decide)).trans ((up_ne (by decide)).trans ((up_ne (by decide)).trans ((up_ne (by decide)).trans ((up_ne (by decide)).trans ((up_ne (by decide)).trans ((up_ne (by decide)).trans ((up_ne (by decide)).trans ((up_ne (by decide)).trans ((up_ne (by decide)).trans ((up_ne (by decide)).trans ((up_ne (by decide)).trans ((up_ne (by decide)).trans ((up_ne (by decide)).trans ((up_ne (by decide)).trans ((up_ne (by decide)).trans ((up_ne (by decide)).trans ((up_ne (by decide)).trans ((up_ne (by decide)).trans ((up_ne (by decide)).trans ((up_ne (by decide)).trans ((up_ne (by decide)).trans ((up_ne (by decide)).trans ((up_ne (by decide)).trans ((up_ne (by decide)).trans ((up_ne (by decide)).trans ((up_ne (by decide)).trans ((up_ne (by decide)).trans ((up_ne (by decide)).trans ((up_ne (by decide)).trans ((up_ne (by decide)).trans ((up_ne (by decide)).trans ((up_ne (by decide)).trans ((up_ne (by decide)).trans up_at))))))))))))))))))))))))))))))))))))))))))))))))))) rfl rfl inT11 (by decide) rfl tb_275 rfl hin rfl (by decide +kernel) rfl rfl (Nat.le_of_ble_eq_true rfl) dX11_init_86 (fun H locs w => ?_)
  refine lv_aload_n hx hb dX11_init_89 rfl (lv_at hl 0 rfl) ?_
  refine n_new F w (C := RX6) (T := TX6) (N := 4) (ci := 6) (fs := [.int 0, .null, .null, .null]) tyX6 tyX6_ok inT6 tb_773 tb_774 tb_248 rfl nf_6 (Nat.le_of_ble_eq_true rfl) (Nat.le_of_ble_eq_true rfl) (c1 := 135) (s1 := 2823) (n1 := 136) rfl rfl rfl dX11_init_90 (fun H w => ?_)
  refine lv_dup hx hb dX11_init_93 rfl ?_
  refine n_callN F w (b := 135) (As := []) (rest := [.ref (B + 135), .ref (B + 0)]) (n_X6_init_53 (up_at)) gc_X6_init rfl tb_248 (by decide) tb_777 hs_X6_init ⟨(Nat.le_of_ble_eq_true rfl), (Nat.le_of_ble_eq_true rfl)⟩ hl.1 rfl (Nat.le_of_ble_eq_true rfl) ⟨(Nat.le_of_ble_eq_true rfl), (Nat.le_of_ble_eq_true rfl)⟩ (k1 := 140) (k2 := 2867) rfl rfl dX11_init_94 (fun H locs w => ?_)
  refine n_putF F w (a := 0) (C := RX11) (T := TX11) (N := 10) (ci := 11) (k := 7) (x := .ref (B + 135)) (ty := .object "ToneLines$Sources") (fs1 := [.ref (B + 1), .ref (B + 3), .ref (B + 4), .ref (B + 22), .ref (B + 44), .ref (B + 71), .ref (B + 109), .ref (B + 135), .null, .null]) tyX11 tyX11_ok nmX11 (by decide) ((up_ne (by decide)).trans ((up_ne (by decide)).trans ((up_ne (by decide)).trans ((up_ne (by decide)).trans ((up_ne (by decide)).trans ((up_ne (by decide)).trans ((up_ne (by decide)).trans ((up_ne (by decide)).trans ((up_ne (by decide)).trans ((up_ne (by decide)).trans ((up_ne (by decide)).trans up_at))))))))))) rfl rfl inT11 (by decide) rfl tb_277 rfl hin rfl (by decide +kernel) rfl rfl (Nat.le_of_ble_eq_true rfl) dX11_init_97 (fun H locs w => ?_)
  refine lv_aload_n hx hb dX11_init_100 rfl (lv_at hl 0 rfl) ?_
  refine n_new F w (C := RX7) (T := TX7) (N := 2) (ci := 7) (fs := [.null, .int 0]) tyX7 tyX7_ok inT7 tb_778 tb_779 tb_258 rfl nf_7 (Nat.le_of_ble_eq_true rfl) (Nat.le_of_ble_eq_true rfl) (c1 := 141) (s1 := 2869) (n1 := 142) rfl rfl rfl dX11_init_101 (fun H w => ?_)
  refine lv_dup hx hb dX11_init_104 rfl ?_
  refine n_callN F w (b := 141) (As := []) (rest := [.ref (B + 141), .ref (B + 0)]) (n_X7_init_54 (up_at)) gc_X7_init rfl tb_258 (by decide) tb_782 hs_X7_init ⟨(Nat.le_of_ble_eq_true rfl), (Nat.le_of_ble_eq_true rfl)⟩ hl.1 rfl (Nat.le_of_ble_eq_true rfl) ⟨(Nat.le_of_ble_eq_true rfl), (Nat.le_of_ble_eq_true rfl)⟩ (k1 := 142) (k2 := 3125) rfl rfl dX11_init_105 (fun H locs w => ?_)
  refine n_putF F w (a := 0) (C := RX11) (T := TX11) (N := 10) (ci := 11) (k := 8) (x := .ref (B + 141)) (ty := .object "ToneLines$Speller") (fs1 := [.ref (B + 1), .ref (B + 3), .ref (B + 4), .ref (B + 22), .ref (B + 44), .ref (B + 71), .ref (B + 109), .ref (B + 135), .ref (B + 141), .null]) tyX11 tyX11_ok nmX11 (by decide) ((up_ne (by decide)).trans ((up_ne (by decide)).trans ((up_ne (by decide)).trans up_at))) rfl rfl inT11 (by decide) rfl tb_367 rfl hin rfl (by decide +kernel) rfl rfl (Nat.le_of_ble_eq_true rfl) dX11_init_108 (fun H locs w => ?_)
  refine lv_aload_n hx hb dX11_init_111 rfl (lv_at hl 0 rfl) ?_
  refine n_new F w (C := RX9) (T := TX9) (N := 6) (ci := 9) (fs := [.int 0, .int 0, .int 0, .int 0, .null, .null]) tyX9 tyX9_ok inT9 tb_783 tb_754 tb_5 rfl nf_9 (Nat.le_of_ble_eq_true rfl) (Nat.le_of_ble_eq_true rfl) (c1 := 143) (s1 := 3131) (n1 := 144) rfl rfl rfl dX11_init_112 (fun H w => ?_)
  refine lv_dup hx hb dX11_init_115 rfl ?_
  refine n_callN F w (b := 143) (As := []) (rest := [.ref (B + 143), .ref (B + 0)]) (n_X9_init_55 (up_at)) gc_X9_init rfl tb_5 (by decide) tb_756 hs_X9_init ⟨(Nat.le_of_ble_eq_true rfl), (Nat.le_of_ble_eq_true rfl)⟩ hl.1 rfl (Nat.le_of_ble_eq_true rfl) ⟨(Nat.le_of_ble_eq_true rfl), (Nat.le_of_ble_eq_true rfl)⟩ (k1 := 145) (k2 := 3155) rfl rfl dX11_init_116 (fun H locs w => ?_)
  refine n_putF F w (a := 0) (C := RX11) (T := TX11) (N := 10) (ci := 11) (k := 9) (x := .ref (B + 143)) (ty := .object "ToneLines$Word") (fs1 := [.ref (B + 1), .ref (B + 3), .ref (B + 4), .ref (B + 22), .ref (B + 44), .ref (B + 71), .ref (B + 109), .ref (B + 135), .ref (B + 141), .ref (B + 143)]) tyX11 tyX11_ok nmX11 (by decide) ((up_ne (by decide)).trans ((up_ne (by decide)).trans ((up_ne (by decide)).trans ((up_ne (by decide)).trans ((up_ne (by decide)).trans up_at))))) rfl rfl inT11 (by decide) rfl tb_324 rfl hin rfl (by decide +kernel) rfl rfl (Nat.le_of_ble_eq_true rfl) dX11_init_119 (fun H locs w => ?_)
  exact n_end F w hr hlocks dX11_init_122
theorem dX12_init_0 : decode cX12_init 0 = .ok (.aload_n 0, 1) := dq0 kk_42 (by decide +kernel)
theorem dX12_init_1 : decode cX12_init 1 = .ok (.invokespecial 7, 3) := dqV kk_183 (by decide +kernel)
theorem tb_784 : Cond.methodLink "ToneLinesModel" 7 ⟨"java/lang/Object", "<init>", "()V"⟩ ∈ TB := tbm (tc5 (List.mem_of_getElem? (i := 56) rfl)) rfl
theorem dX12_init_4 : decode cX12_init 4 = .ok (.aload_n 0, 1) := dq0 kk_42 (by decide +kernel)
theorem dX12_init_5 : decode cX12_init 5 = .ok (.bipush 28, 2) := dqS kk_16 (by decide +kernel)
theorem dX12_init_7 : decode cX12_init 7 = .ok (.newarray .int, 2) := by decide +kernel
theorem dX12_init_9 : decode cX12_init 9 = .ok (.putfield 13, 3) := dqV kk_181 (by decide +kernel)
theorem dX12_init_12 : decode cX12_init 12 = .ok (.aload_n 0, 1) := dq0 kk_42 (by decide +kernel)
theorem dX12_init_13 : decode cX12_init 13 = .ok (.bipush 28, 2) := dqS kk_16 (by decide +kernel)
theorem dX12_init_15 : decode cX12_init 15 = .ok (.newarray .int, 2) := by decide +kernel
theorem dX12_init_17 : decode cX12_init 17 = .ok (.putfield 17, 3) := dqV kk_181 (by decide +kernel)
theorem dX12_init_20 : decode cX12_init 20 = .ok (.aload_n 0, 1) := dq0 kk_42 (by decide +kernel)
theorem dX12_init_21 : decode cX12_init 21 = .ok (.bipush 64, 2) := dqS kk_16 (by decide +kernel)
theorem dX12_init_23 : decode cX12_init 23 = .ok (.newarray .int, 2) := by decide +kernel
theorem dX12_init_25 : decode cX12_init 25 = .ok (.putfield 20, 3) := dqV kk_181 (by decide +kernel)
theorem dX12_init_28 : decode cX12_init 28 = .ok (.aload_n 0, 1) := dq0 kk_42 (by decide +kernel)
theorem dX12_init_29 : decode cX12_init 29 = .ok (.sipush 300, 3) := dqT kk_17 (by decide +kernel)
theorem dX12_init_32 : decode cX12_init 32 = .ok (.newarray .int, 2) := by decide +kernel
theorem dX12_init_34 : decode cX12_init 34 = .ok (.putfield 23, 3) := dqV kk_181 (by decide +kernel)
theorem dX12_init_37 : decode cX12_init 37 = .ok (.aload_n 0, 1) := dq0 kk_42 (by decide +kernel)
theorem dX12_init_38 : decode cX12_init 38 = .ok (.bipush 28, 2) := dqS kk_16 (by decide +kernel)
theorem dX12_init_40 : decode cX12_init 40 = .ok (.newarray .int, 2) := by decide +kernel
theorem dX12_init_42 : decode cX12_init 42 = .ok (.putfield 26, 3) := dqV kk_181 (by decide +kernel)
theorem dX12_init_45 : decode cX12_init 45 = .ok (.aload_n 0, 1) := dq0 kk_42 (by decide +kernel)
theorem dX12_init_46 : decode cX12_init 46 = .ok (.sipush 147, 3) := dqT kk_17 (by decide +kernel)
theorem dX12_init_49 : decode cX12_init 49 = .ok (.newarray .byte, 2) := by decide +kernel
theorem dX12_init_51 : decode cX12_init 51 = .ok (.dup, 1) := dq0 kk_89 (by decide +kernel)
theorem dX12_init_52 : decode cX12_init 52 = .ok (.iconst 0, 1) := dq0 kk_3 (by decide +kernel)
theorem dX12_init_53 : decode cX12_init 53 = .ok (.bipush 97, 2) := dqS kk_16 (by decide +kernel)
theorem dX12_init_55 : decode cX12_init 55 = .ok (.bastore, 1) := dq0 kk_84 (by decide +kernel)
theorem dX12_init_56 : decode cX12_init 56 = .ok (.dup, 1) := dq0 kk_89 (by decide +kernel)
theorem dX12_init_57 : decode cX12_init 57 = .ok (.iconst 1, 1) := dq0 kk_4 (by decide +kernel)
theorem dX12_init_58 : decode cX12_init 58 = .ok (.bipush 103, 2) := dqS kk_16 (by decide +kernel)
theorem dX12_init_60 : decode cX12_init 60 = .ok (.bastore, 1) := dq0 kk_84 (by decide +kernel)
theorem dX12_init_61 : decode cX12_init 61 = .ok (.dup, 1) := dq0 kk_89 (by decide +kernel)
theorem dX12_init_62 : decode cX12_init 62 = .ok (.iconst 2, 1) := dq0 kk_5 (by decide +kernel)
theorem dX12_init_63 : decode cX12_init 63 = .ok (.bipush 97, 2) := dqS kk_16 (by decide +kernel)
theorem dX12_init_65 : decode cX12_init 65 = .ok (.bastore, 1) := dq0 kk_84 (by decide +kernel)
theorem dX12_init_66 : decode cX12_init 66 = .ok (.dup, 1) := dq0 kk_89 (by decide +kernel)
theorem dX12_init_67 : decode cX12_init 67 = .ok (.iconst 3, 1) := dq0 kk_6 (by decide +kernel)
theorem dX12_init_68 : decode cX12_init 68 = .ok (.bipush 105, 2) := dqS kk_16 (by decide +kernel)
theorem dX12_init_70 : decode cX12_init 70 = .ok (.bastore, 1) := dq0 kk_84 (by decide +kernel)
theorem dX12_init_71 : decode cX12_init 71 = .ok (.dup, 1) := dq0 kk_89 (by decide +kernel)
theorem dX12_init_72 : decode cX12_init 72 = .ok (.iconst 4, 1) := dq0 kk_7 (by decide +kernel)
theorem dX12_init_73 : decode cX12_init 73 = .ok (.bipush 110, 2) := dqS kk_16 (by decide +kernel)
theorem dX12_init_75 : decode cX12_init 75 = .ok (.bastore, 1) := dq0 kk_84 (by decide +kernel)
theorem dX12_init_76 : decode cX12_init 76 = .ok (.dup, 1) := dq0 kk_89 (by decide +kernel)
theorem dX12_init_77 : decode cX12_init 77 = .ok (.iconst 5, 1) := dq0 kk_8 (by decide +kernel)
theorem dX12_init_78 : decode cX12_init 78 = .ok (.iconst 0, 1) := dq0 kk_3 (by decide +kernel)
theorem dX12_init_79 : decode cX12_init 79 = .ok (.bastore, 1) := dq0 kk_84 (by decide +kernel)
theorem dX12_init_80 : decode cX12_init 80 = .ok (.dup, 1) := dq0 kk_89 (by decide +kernel)
theorem dX12_init_81 : decode cX12_init 81 = .ok (.bipush 6, 2) := dqS kk_16 (by decide +kernel)
theorem dX12_init_83 : decode cX12_init 83 = .ok (.bipush 108, 2) := dqS kk_16 (by decide +kernel)
theorem dX12_init_85 : decode cX12_init 85 = .ok (.bastore, 1) := dq0 kk_84 (by decide +kernel)
theorem dX12_init_86 : decode cX12_init 86 = .ok (.dup, 1) := dq0 kk_89 (by decide +kernel)
theorem dX12_init_87 : decode cX12_init 87 = .ok (.bipush 7, 2) := dqS kk_16 (by decide +kernel)
theorem dX12_init_89 : decode cX12_init 89 = .ok (.bipush 105, 2) := dqS kk_16 (by decide +kernel)
theorem dX12_init_91 : decode cX12_init 91 = .ok (.bastore, 1) := dq0 kk_84 (by decide +kernel)
theorem dX12_init_92 : decode cX12_init 92 = .ok (.dup, 1) := dq0 kk_89 (by decide +kernel)
theorem dX12_init_93 : decode cX12_init 93 = .ok (.bipush 8, 2) := dqS kk_16 (by decide +kernel)
theorem dX12_init_95 : decode cX12_init 95 = .ok (.bipush 110, 2) := dqS kk_16 (by decide +kernel)
theorem dX12_init_97 : decode cX12_init 97 = .ok (.bastore, 1) := dq0 kk_84 (by decide +kernel)
theorem dX12_init_98 : decode cX12_init 98 = .ok (.dup, 1) := dq0 kk_89 (by decide +kernel)
theorem dX12_init_99 : decode cX12_init 99 = .ok (.bipush 9, 2) := dqS kk_16 (by decide +kernel)
theorem dX12_init_101 : decode cX12_init 101 = .ok (.bipush 107, 2) := dqS kk_16 (by decide +kernel)
theorem dX12_init_103 : decode cX12_init 103 = .ok (.bastore, 1) := dq0 kk_84 (by decide +kernel)
theorem dX12_init_104 : decode cX12_init 104 = .ok (.dup, 1) := dq0 kk_89 (by decide +kernel)
theorem dX12_init_105 : decode cX12_init 105 = .ok (.bipush 10, 2) := dqS kk_16 (by decide +kernel)
theorem dX12_init_107 : decode cX12_init 107 = .ok (.iconst 0, 1) := dq0 kk_3 (by decide +kernel)
theorem dX12_init_108 : decode cX12_init 108 = .ok (.bastore, 1) := dq0 kk_84 (by decide +kernel)
theorem dX12_init_109 : decode cX12_init 109 = .ok (.dup, 1) := dq0 kk_89 (by decide +kernel)
theorem dX12_init_110 : decode cX12_init 110 = .ok (.bipush 11, 2) := dqS kk_16 (by decide +kernel)
theorem dX12_init_112 : decode cX12_init 112 = .ok (.bipush 115, 2) := dqS kk_16 (by decide +kernel)
theorem dX12_init_114 : decode cX12_init 114 = .ok (.bastore, 1) := dq0 kk_84 (by decide +kernel)
theorem dX12_init_115 : decode cX12_init 115 = .ok (.dup, 1) := dq0 kk_89 (by decide +kernel)
theorem dX12_init_116 : decode cX12_init 116 = .ok (.bipush 12, 2) := dqS kk_16 (by decide +kernel)
theorem dX12_init_118 : decode cX12_init 118 = .ok (.bipush 112, 2) := dqS kk_16 (by decide +kernel)
theorem dX12_init_120 : decode cX12_init 120 = .ok (.bastore, 1) := dq0 kk_84 (by decide +kernel)
theorem dX12_init_121 : decode cX12_init 121 = .ok (.dup, 1) := dq0 kk_89 (by decide +kernel)
theorem dX12_init_122 : decode cX12_init 122 = .ok (.bipush 13, 2) := dqS kk_16 (by decide +kernel)
theorem dX12_init_124 : decode cX12_init 124 = .ok (.bipush 114, 2) := dqS kk_16 (by decide +kernel)
theorem dX12_init_126 : decode cX12_init 126 = .ok (.bastore, 1) := dq0 kk_84 (by decide +kernel)
theorem dX12_init_127 : decode cX12_init 127 = .ok (.dup, 1) := dq0 kk_89 (by decide +kernel)
theorem dX12_init_128 : decode cX12_init 128 = .ok (.bipush 14, 2) := dqS kk_16 (by decide +kernel)
theorem dX12_init_130 : decode cX12_init 130 = .ok (.bipush 101, 2) := dqS kk_16 (by decide +kernel)
theorem dX12_init_132 : decode cX12_init 132 = .ok (.bastore, 1) := dq0 kk_84 (by decide +kernel)
theorem dX12_init_133 : decode cX12_init 133 = .ok (.dup, 1) := dq0 kk_89 (by decide +kernel)
theorem dX12_init_134 : decode cX12_init 134 = .ok (.bipush 15, 2) := dqS kk_16 (by decide +kernel)
theorem dX12_init_136 : decode cX12_init 136 = .ok (.bipush 97, 2) := dqS kk_16 (by decide +kernel)
theorem dX12_init_138 : decode cX12_init 138 = .ok (.bastore, 1) := dq0 kk_84 (by decide +kernel)
theorem dX12_init_139 : decode cX12_init 139 = .ok (.dup, 1) := dq0 kk_89 (by decide +kernel)
theorem dX12_init_140 : decode cX12_init 140 = .ok (.bipush 16, 2) := dqS kk_16 (by decide +kernel)
theorem dX12_init_142 : decode cX12_init 142 = .ok (.bipush 100, 2) := dqS kk_16 (by decide +kernel)
theorem dX12_init_144 : decode cX12_init 144 = .ok (.bastore, 1) := dq0 kk_84 (by decide +kernel)
theorem dX12_init_145 : decode cX12_init 145 = .ok (.dup, 1) := dq0 kk_89 (by decide +kernel)
theorem dX12_init_146 : decode cX12_init 146 = .ok (.bipush 17, 2) := dqS kk_16 (by decide +kernel)
theorem dX12_init_148 : decode cX12_init 148 = .ok (.iconst 0, 1) := dq0 kk_3 (by decide +kernel)
theorem dX12_init_149 : decode cX12_init 149 = .ok (.bastore, 1) := dq0 kk_84 (by decide +kernel)
theorem dX12_init_150 : decode cX12_init 150 = .ok (.dup, 1) := dq0 kk_89 (by decide +kernel)
theorem dX12_init_151 : decode cX12_init 151 = .ok (.bipush 18, 2) := dqS kk_16 (by decide +kernel)
theorem dX12_init_153 : decode cX12_init 153 = .ok (.bipush 115, 2) := dqS kk_16 (by decide +kernel)
theorem dX12_init_155 : decode cX12_init 155 = .ok (.bastore, 1) := dq0 kk_84 (by decide +kernel)
theorem dX12_init_156 : decode cX12_init 156 = .ok (.dup, 1) := dq0 kk_89 (by decide +kernel)
theorem dX12_init_157 : decode cX12_init 157 = .ok (.bipush 19, 2) := dqS kk_16 (by decide +kernel)
theorem dX12_init_159 : decode cX12_init 159 = .ok (.bipush 104, 2) := dqS kk_16 (by decide +kernel)
theorem dX12_init_161 : decode cX12_init 161 = .ok (.bastore, 1) := dq0 kk_84 (by decide +kernel)
theorem dX12_init_162 : decode cX12_init 162 = .ok (.dup, 1) := dq0 kk_89 (by decide +kernel)
theorem dX12_init_163 : decode cX12_init 163 = .ok (.bipush 20, 2) := dqS kk_16 (by decide +kernel)
theorem dX12_init_165 : decode cX12_init 165 = .ok (.bipush 105, 2) := dqS kk_16 (by decide +kernel)
theorem dX12_init_167 : decode cX12_init 167 = .ok (.bastore, 1) := dq0 kk_84 (by decide +kernel)
theorem dX12_init_168 : decode cX12_init 168 = .ok (.dup, 1) := dq0 kk_89 (by decide +kernel)
theorem dX12_init_169 : decode cX12_init 169 = .ok (.bipush 21, 2) := dqS kk_16 (by decide +kernel)
theorem dX12_init_171 : decode cX12_init 171 = .ok (.bipush 102, 2) := dqS kk_16 (by decide +kernel)
theorem dX12_init_173 : decode cX12_init 173 = .ok (.bastore, 1) := dq0 kk_84 (by decide +kernel)
theorem dX12_init_174 : decode cX12_init 174 = .ok (.dup, 1) := dq0 kk_89 (by decide +kernel)
theorem dX12_init_175 : decode cX12_init 175 = .ok (.bipush 22, 2) := dqS kk_16 (by decide +kernel)
theorem dX12_init_177 : decode cX12_init 177 = .ok (.bipush 116, 2) := dqS kk_16 (by decide +kernel)
theorem dX12_init_179 : decode cX12_init 179 = .ok (.bastore, 1) := dq0 kk_84 (by decide +kernel)
theorem dX12_init_180 : decode cX12_init 180 = .ok (.dup, 1) := dq0 kk_89 (by decide +kernel)
theorem dX12_init_181 : decode cX12_init 181 = .ok (.bipush 23, 2) := dqS kk_16 (by decide +kernel)
theorem dX12_init_183 : decode cX12_init 183 = .ok (.iconst 0, 1) := dq0 kk_3 (by decide +kernel)
theorem dX12_init_184 : decode cX12_init 184 = .ok (.bastore, 1) := dq0 kk_84 (by decide +kernel)
theorem dX12_init_185 : decode cX12_init 185 = .ok (.dup, 1) := dq0 kk_89 (by decide +kernel)
theorem dX12_init_186 : decode cX12_init 186 = .ok (.bipush 24, 2) := dqS kk_16 (by decide +kernel)
theorem dX12_init_188 : decode cX12_init 188 = .ok (.bipush 99, 2) := dqS kk_16 (by decide +kernel)
theorem dX12_init_190 : decode cX12_init 190 = .ok (.bastore, 1) := dq0 kk_84 (by decide +kernel)
theorem dX12_init_191 : decode cX12_init 191 = .ok (.dup, 1) := dq0 kk_89 (by decide +kernel)
theorem dX12_init_192 : decode cX12_init 192 = .ok (.bipush 25, 2) := dqS kk_16 (by decide +kernel)
theorem dX12_init_194 : decode cX12_init 194 = .ok (.bipush 117, 2) := dqS kk_16 (by decide +kernel)
theorem dX12_init_196 : decode cX12_init 196 = .ok (.bastore, 1) := dq0 kk_84 (by decide +kernel)
theorem dX12_init_197 : decode cX12_init 197 = .ok (.dup, 1) := dq0 kk_89 (by decide +kernel)
theorem dX12_init_198 : decode cX12_init 198 = .ok (.bipush 26, 2) := dqS kk_16 (by decide +kernel)
theorem dX12_init_200 : decode cX12_init 200 = .ok (.bipush 116, 2) := dqS kk_16 (by decide +kernel)
theorem dX12_init_202 : decode cX12_init 202 = .ok (.bastore, 1) := dq0 kk_84 (by decide +kernel)
theorem dX12_init_203 : decode cX12_init 203 = .ok (.dup, 1) := dq0 kk_89 (by decide +kernel)
theorem dX12_init_204 : decode cX12_init 204 = .ok (.bipush 27, 2) := dqS kk_16 (by decide +kernel)
theorem dX12_init_206 : decode cX12_init 206 = .ok (.iconst 0, 1) := dq0 kk_3 (by decide +kernel)
theorem dX12_init_207 : decode cX12_init 207 = .ok (.bastore, 1) := dq0 kk_84 (by decide +kernel)
theorem dX12_init_208 : decode cX12_init 208 = .ok (.dup, 1) := dq0 kk_89 (by decide +kernel)
theorem dX12_init_209 : decode cX12_init 209 = .ok (.bipush 28, 2) := dqS kk_16 (by decide +kernel)
theorem dX12_init_211 : decode cX12_init 211 = .ok (.bipush 100, 2) := dqS kk_16 (by decide +kernel)
theorem dX12_init_213 : decode cX12_init 213 = .ok (.bastore, 1) := dq0 kk_84 (by decide +kernel)
theorem dX12_init_214 : decode cX12_init 214 = .ok (.dup, 1) := dq0 kk_89 (by decide +kernel)
theorem dX12_init_215 : decode cX12_init 215 = .ok (.bipush 29, 2) := dqS kk_16 (by decide +kernel)
theorem dX12_init_217 : decode cX12_init 217 = .ok (.bipush 111, 2) := dqS kk_16 (by decide +kernel)
theorem dX12_init_219 : decode cX12_init 219 = .ok (.bastore, 1) := dq0 kk_84 (by decide +kernel)
theorem dX12_init_220 : decode cX12_init 220 = .ok (.dup, 1) := dq0 kk_89 (by decide +kernel)
theorem dX12_init_221 : decode cX12_init 221 = .ok (.bipush 30, 2) := dqS kk_16 (by decide +kernel)
theorem dX12_init_223 : decode cX12_init 223 = .ok (.bipush 99, 2) := dqS kk_16 (by decide +kernel)
theorem dX12_init_225 : decode cX12_init 225 = .ok (.bastore, 1) := dq0 kk_84 (by decide +kernel)
theorem dX12_init_226 : decode cX12_init 226 = .ok (.dup, 1) := dq0 kk_89 (by decide +kernel)
theorem dX12_init_227 : decode cX12_init 227 = .ok (.bipush 31, 2) := dqS kk_16 (by decide +kernel)
theorem dX12_init_229 : decode cX12_init 229 = .ok (.bipush 107, 2) := dqS kk_16 (by decide +kernel)
theorem dX12_init_231 : decode cX12_init 231 = .ok (.bastore, 1) := dq0 kk_84 (by decide +kernel)
theorem dX12_init_232 : decode cX12_init 232 = .ok (.dup, 1) := dq0 kk_89 (by decide +kernel)
theorem dX12_init_233 : decode cX12_init 233 = .ok (.bipush 32, 2) := dqS kk_16 (by decide +kernel)
theorem dX12_init_235 : decode cX12_init 235 = .ok (.iconst 0, 1) := dq0 kk_3 (by decide +kernel)
theorem dX12_init_236 : decode cX12_init 236 = .ok (.bastore, 1) := dq0 kk_84 (by decide +kernel)
theorem dX12_init_237 : decode cX12_init 237 = .ok (.dup, 1) := dq0 kk_89 (by decide +kernel)
theorem dX12_init_238 : decode cX12_init 238 = .ok (.bipush 33, 2) := dqS kk_16 (by decide +kernel)
theorem dX12_init_240 : decode cX12_init 240 = .ok (.bipush 100, 2) := dqS kk_16 (by decide +kernel)
theorem dX12_init_242 : decode cX12_init 242 = .ok (.bastore, 1) := dq0 kk_84 (by decide +kernel)
theorem dX12_init_243 : decode cX12_init 243 = .ok (.dup, 1) := dq0 kk_89 (by decide +kernel)
theorem dX12_init_244 : decode cX12_init 244 = .ok (.bipush 34, 2) := dqS kk_16 (by decide +kernel)
theorem dX12_init_246 : decode cX12_init 246 = .ok (.bipush 114, 2) := dqS kk_16 (by decide +kernel)
theorem dX12_init_248 : decode cX12_init 248 = .ok (.bastore, 1) := dq0 kk_84 (by decide +kernel)
theorem dX12_init_249 : decode cX12_init 249 = .ok (.dup, 1) := dq0 kk_89 (by decide +kernel)
theorem dX12_init_250 : decode cX12_init 250 = .ok (.bipush 35, 2) := dqS kk_16 (by decide +kernel)
theorem dX12_init_252 : decode cX12_init 252 = .ok (.bipush 111, 2) := dqS kk_16 (by decide +kernel)
theorem dX12_init_254 : decode cX12_init 254 = .ok (.bastore, 1) := dq0 kk_84 (by decide +kernel)
theorem dX12_init_255 : decode cX12_init 255 = .ok (.dup, 1) := dq0 kk_89 (by decide +kernel)
theorem dX12_init_256 : decode cX12_init 256 = .ok (.bipush 36, 2) := dqS kk_16 (by decide +kernel)
theorem dX12_init_258 : decode cX12_init 258 = .ok (.bipush 112, 2) := dqS kk_16 (by decide +kernel)
theorem dX12_init_260 : decode cX12_init 260 = .ok (.bastore, 1) := dq0 kk_84 (by decide +kernel)
theorem dX12_init_261 : decode cX12_init 261 = .ok (.dup, 1) := dq0 kk_89 (by decide +kernel)
theorem dX12_init_262 : decode cX12_init 262 = .ok (.bipush 37, 2) := dqS kk_16 (by decide +kernel)
theorem dX12_init_264 : decode cX12_init 264 = .ok (.iconst 0, 1) := dq0 kk_3 (by decide +kernel)
theorem dX12_init_265 : decode cX12_init 265 = .ok (.bastore, 1) := dq0 kk_84 (by decide +kernel)
theorem dX12_init_266 : decode cX12_init 266 = .ok (.dup, 1) := dq0 kk_89 (by decide +kernel)
theorem dX12_init_267 : decode cX12_init 267 = .ok (.bipush 38, 2) := dqS kk_16 (by decide +kernel)
theorem dX12_init_269 : decode cX12_init 269 = .ok (.bipush 102, 2) := dqS kk_16 (by decide +kernel)
theorem dX12_init_271 : decode cX12_init 271 = .ok (.bastore, 1) := dq0 kk_84 (by decide +kernel)
theorem dX12_init_272 : decode cX12_init 272 = .ok (.dup, 1) := dq0 kk_89 (by decide +kernel)
theorem dX12_init_273 : decode cX12_init 273 = .ok (.bipush 39, 2) := dqS kk_16 (by decide +kernel)
theorem dX12_init_275 : decode cX12_init 275 = .ok (.bipush 117, 2) := dqS kk_16 (by decide +kernel)
theorem dX12_init_277 : decode cX12_init 277 = .ok (.bastore, 1) := dq0 kk_84 (by decide +kernel)
theorem dX12_init_278 : decode cX12_init 278 = .ok (.dup, 1) := dq0 kk_89 (by decide +kernel)
theorem dX12_init_279 : decode cX12_init 279 = .ok (.bipush 40, 2) := dqS kk_16 (by decide +kernel)
theorem dX12_init_281 : decode cX12_init 281 = .ok (.bipush 115, 2) := dqS kk_16 (by decide +kernel)
theorem dX12_init_283 : decode cX12_init 283 = .ok (.bastore, 1) := dq0 kk_84 (by decide +kernel)
theorem dX12_init_284 : decode cX12_init 284 = .ok (.dup, 1) := dq0 kk_89 (by decide +kernel)
theorem dX12_init_285 : decode cX12_init 285 = .ok (.bipush 41, 2) := dqS kk_16 (by decide +kernel)
theorem dX12_init_287 : decode cX12_init 287 = .ok (.bipush 101, 2) := dqS kk_16 (by decide +kernel)
theorem dX12_init_289 : decode cX12_init 289 = .ok (.bastore, 1) := dq0 kk_84 (by decide +kernel)
theorem dX12_init_290 : decode cX12_init 290 = .ok (.dup, 1) := dq0 kk_89 (by decide +kernel)
theorem dX12_init_291 : decode cX12_init 291 = .ok (.bipush 42, 2) := dqS kk_16 (by decide +kernel)
theorem dX12_init_293 : decode cX12_init 293 = .ok (.iconst 0, 1) := dq0 kk_3 (by decide +kernel)
theorem dX12_init_294 : decode cX12_init 294 = .ok (.bastore, 1) := dq0 kk_84 (by decide +kernel)
theorem dX12_init_295 : decode cX12_init 295 = .ok (.dup, 1) := dq0 kk_89 (by decide +kernel)
theorem dX12_init_296 : decode cX12_init 296 = .ok (.bipush 43, 2) := dqS kk_16 (by decide +kernel)
theorem dX12_init_298 : decode cX12_init 298 = .ok (.bipush 116, 2) := dqS kk_16 (by decide +kernel)
theorem dX12_init_300 : decode cX12_init 300 = .ok (.bastore, 1) := dq0 kk_84 (by decide +kernel)
theorem dX12_init_301 : decode cX12_init 301 = .ok (.dup, 1) := dq0 kk_89 (by decide +kernel)
theorem dX12_init_302 : decode cX12_init 302 = .ok (.bipush 44, 2) := dqS kk_16 (by decide +kernel)
theorem dX12_init_304 : decode cX12_init 304 = .ok (.bipush 117, 2) := dqS kk_16 (by decide +kernel)
theorem dX12_init_306 : decode cX12_init 306 = .ok (.bastore, 1) := dq0 kk_84 (by decide +kernel)
theorem dX12_init_307 : decode cX12_init 307 = .ok (.dup, 1) := dq0 kk_89 (by decide +kernel)
theorem dX12_init_308 : decode cX12_init 308 = .ok (.bipush 45, 2) := dqS kk_16 (by decide +kernel)
theorem dX12_init_310 : decode cX12_init 310 = .ok (.bipush 114, 2) := dqS kk_16 (by decide +kernel)
theorem dX12_init_312 : decode cX12_init 312 = .ok (.bastore, 1) := dq0 kk_84 (by decide +kernel)
theorem dX12_init_313 : decode cX12_init 313 = .ok (.dup, 1) := dq0 kk_89 (by decide +kernel)
theorem dX12_init_314 : decode cX12_init 314 = .ok (.bipush 46, 2) := dqS kk_16 (by decide +kernel)
theorem dX12_init_316 : decode cX12_init 316 = .ok (.bipush 110, 2) := dqS kk_16 (by decide +kernel)
theorem dX12_init_318 : decode cX12_init 318 = .ok (.bastore, 1) := dq0 kk_84 (by decide +kernel)
theorem dX12_init_319 : decode cX12_init 319 = .ok (.dup, 1) := dq0 kk_89 (by decide +kernel)
theorem dX12_init_320 : decode cX12_init 320 = .ok (.bipush 47, 2) := dqS kk_16 (by decide +kernel)
theorem dX12_init_322 : decode cX12_init 322 = .ok (.iconst 0, 1) := dq0 kk_3 (by decide +kernel)
theorem dX12_init_323 : decode cX12_init 323 = .ok (.bastore, 1) := dq0 kk_84 (by decide +kernel)
theorem dX12_init_324 : decode cX12_init 324 = .ok (.dup, 1) := dq0 kk_89 (by decide +kernel)
theorem dX12_init_325 : decode cX12_init 325 = .ok (.bipush 48, 2) := dqS kk_16 (by decide +kernel)
theorem dX12_init_327 : decode cX12_init 327 = .ok (.bipush 102, 2) := dqS kk_16 (by decide +kernel)
theorem dX12_init_329 : decode cX12_init 329 = .ok (.bastore, 1) := dq0 kk_84 (by decide +kernel)
theorem dX12_init_330 : decode cX12_init 330 = .ok (.dup, 1) := dq0 kk_89 (by decide +kernel)
theorem dX12_init_331 : decode cX12_init 331 = .ok (.bipush 49, 2) := dqS kk_16 (by decide +kernel)
theorem dX12_init_333 : decode cX12_init 333 = .ok (.bipush 108, 2) := dqS kk_16 (by decide +kernel)
theorem dX12_init_335 : decode cX12_init 335 = .ok (.bastore, 1) := dq0 kk_84 (by decide +kernel)
theorem dX12_init_336 : decode cX12_init 336 = .ok (.dup, 1) := dq0 kk_89 (by decide +kernel)
theorem dX12_init_337 : decode cX12_init 337 = .ok (.bipush 50, 2) := dqS kk_16 (by decide +kernel)
theorem dX12_init_339 : decode cX12_init 339 = .ok (.bipush 97, 2) := dqS kk_16 (by decide +kernel)
theorem dX12_init_341 : decode cX12_init 341 = .ok (.bastore, 1) := dq0 kk_84 (by decide +kernel)
theorem dX12_init_342 : decode cX12_init 342 = .ok (.dup, 1) := dq0 kk_89 (by decide +kernel)
theorem dX12_init_343 : decode cX12_init 343 = .ok (.bipush 51, 2) := dqS kk_16 (by decide +kernel)
theorem dX12_init_345 : decode cX12_init 345 = .ok (.bipush 116, 2) := dqS kk_16 (by decide +kernel)
theorem dX12_init_347 : decode cX12_init 347 = .ok (.bastore, 1) := dq0 kk_84 (by decide +kernel)
theorem dX12_init_348 : decode cX12_init 348 = .ok (.dup, 1) := dq0 kk_89 (by decide +kernel)
theorem dX12_init_349 : decode cX12_init 349 = .ok (.bipush 52, 2) := dqS kk_16 (by decide +kernel)
theorem dX12_init_351 : decode cX12_init 351 = .ok (.iconst 0, 1) := dq0 kk_3 (by decide +kernel)
theorem dX12_init_352 : decode cX12_init 352 = .ok (.bastore, 1) := dq0 kk_84 (by decide +kernel)
theorem dX12_init_353 : decode cX12_init 353 = .ok (.dup, 1) := dq0 kk_89 (by decide +kernel)
theorem dX12_init_354 : decode cX12_init 354 = .ok (.bipush 53, 2) := dqS kk_16 (by decide +kernel)
theorem dX12_init_356 : decode cX12_init 356 = .ok (.bipush 102, 2) := dqS kk_16 (by decide +kernel)
theorem dX12_init_358 : decode cX12_init 358 = .ok (.bastore, 1) := dq0 kk_84 (by decide +kernel)
theorem dX12_init_359 : decode cX12_init 359 = .ok (.dup, 1) := dq0 kk_89 (by decide +kernel)
theorem dX12_init_360 : decode cX12_init 360 = .ok (.bipush 54, 2) := dqS kk_16 (by decide +kernel)
theorem dX12_init_362 : decode cX12_init 362 = .ok (.bipush 105, 2) := dqS kk_16 (by decide +kernel)
theorem dX12_init_364 : decode cX12_init 364 = .ok (.bastore, 1) := dq0 kk_84 (by decide +kernel)
theorem dX12_init_365 : decode cX12_init 365 = .ok (.dup, 1) := dq0 kk_89 (by decide +kernel)
theorem dX12_init_366 : decode cX12_init 366 = .ok (.bipush 55, 2) := dqS kk_16 (by decide +kernel)
theorem dX12_init_368 : decode cX12_init 368 = .ok (.bipush 108, 2) := dqS kk_16 (by decide +kernel)
theorem dX12_init_370 : decode cX12_init 370 = .ok (.bastore, 1) := dq0 kk_84 (by decide +kernel)
theorem dX12_init_371 : decode cX12_init 371 = .ok (.dup, 1) := dq0 kk_89 (by decide +kernel)
theorem dX12_init_372 : decode cX12_init 372 = .ok (.bipush 56, 2) := dqS kk_16 (by decide +kernel)
theorem dX12_init_374 : decode cX12_init 374 = .ok (.bipush 108, 2) := dqS kk_16 (by decide +kernel)
theorem dX12_init_376 : decode cX12_init 376 = .ok (.bastore, 1) := dq0 kk_84 (by decide +kernel)
theorem dX12_init_377 : decode cX12_init 377 = .ok (.dup, 1) := dq0 kk_89 (by decide +kernel)
theorem dX12_init_378 : decode cX12_init 378 = .ok (.bipush 57, 2) := dqS kk_16 (by decide +kernel)
theorem dX12_init_380 : decode cX12_init 380 = .ok (.iconst 0, 1) := dq0 kk_3 (by decide +kernel)
theorem dX12_init_381 : decode cX12_init 381 = .ok (.bastore, 1) := dq0 kk_84 (by decide +kernel)
theorem dX12_init_382 : decode cX12_init 382 = .ok (.dup, 1) := dq0 kk_89 (by decide +kernel)
theorem dX12_init_383 : decode cX12_init 383 = .ok (.bipush 58, 2) := dqS kk_16 (by decide +kernel)
theorem dX12_init_385 : decode cX12_init 385 = .ok (.bipush 108, 2) := dqS kk_16 (by decide +kernel)
theorem dX12_init_387 : decode cX12_init 387 = .ok (.bastore, 1) := dq0 kk_84 (by decide +kernel)
theorem dX12_init_388 : decode cX12_init 388 = .ok (.dup, 1) := dq0 kk_89 (by decide +kernel)
theorem dX12_init_389 : decode cX12_init 389 = .ok (.bipush 59, 2) := dqS kk_16 (by decide +kernel)
theorem dX12_init_391 : decode cX12_init 391 = .ok (.bipush 111, 2) := dqS kk_16 (by decide +kernel)
theorem dX12_init_393 : decode cX12_init 393 = .ok (.bastore, 1) := dq0 kk_84 (by decide +kernel)
theorem dX12_init_394 : decode cX12_init 394 = .ok (.dup, 1) := dq0 kk_89 (by decide +kernel)
theorem dX12_init_395 : decode cX12_init 395 = .ok (.bipush 60, 2) := dqS kk_16 (by decide +kernel)
theorem dX12_init_397 : decode cX12_init 397 = .ok (.bipush 119, 2) := dqS kk_16 (by decide +kernel)
theorem dX12_init_399 : decode cX12_init 399 = .ok (.bastore, 1) := dq0 kk_84 (by decide +kernel)
theorem dX12_init_400 : decode cX12_init 400 = .ok (.dup, 1) := dq0 kk_89 (by decide +kernel)
theorem dX12_init_401 : decode cX12_init 401 = .ok (.bipush 61, 2) := dqS kk_16 (by decide +kernel)
theorem dX12_init_403 : decode cX12_init 403 = .ok (.iconst 0, 1) := dq0 kk_3 (by decide +kernel)
theorem dX12_init_404 : decode cX12_init 404 = .ok (.bastore, 1) := dq0 kk_84 (by decide +kernel)
theorem dX12_init_405 : decode cX12_init 405 = .ok (.dup, 1) := dq0 kk_89 (by decide +kernel)
theorem dX12_init_406 : decode cX12_init 406 = .ok (.bipush 62, 2) := dqS kk_16 (by decide +kernel)
theorem dX12_init_408 : decode cX12_init 408 = .ok (.bipush 109, 2) := dqS kk_16 (by decide +kernel)
theorem dX12_init_410 : decode cX12_init 410 = .ok (.bastore, 1) := dq0 kk_84 (by decide +kernel)
theorem dX12_init_411 : decode cX12_init 411 = .ok (.dup, 1) := dq0 kk_89 (by decide +kernel)
theorem dX12_init_412 : decode cX12_init 412 = .ok (.bipush 63, 2) := dqS kk_16 (by decide +kernel)
theorem dX12_init_414 : decode cX12_init 414 = .ok (.bipush 105, 2) := dqS kk_16 (by decide +kernel)
theorem dX12_init_416 : decode cX12_init 416 = .ok (.bastore, 1) := dq0 kk_84 (by decide +kernel)
theorem dX12_init_417 : decode cX12_init 417 = .ok (.dup, 1) := dq0 kk_89 (by decide +kernel)
theorem dX12_init_418 : decode cX12_init 418 = .ok (.bipush 64, 2) := dqS kk_16 (by decide +kernel)
theorem dX12_init_420 : decode cX12_init 420 = .ok (.bipush 100, 2) := dqS kk_16 (by decide +kernel)
theorem dX12_init_422 : decode cX12_init 422 = .ok (.bastore, 1) := dq0 kk_84 (by decide +kernel)
theorem dX12_init_423 : decode cX12_init 423 = .ok (.dup, 1) := dq0 kk_89 (by decide +kernel)
theorem dX12_init_424 : decode cX12_init 424 = .ok (.bipush 65, 2) := dqS kk_16 (by decide +kernel)
theorem dX12_init_426 : decode cX12_init 426 = .ok (.iconst 0, 1) := dq0 kk_3 (by decide +kernel)
theorem dX12_init_427 : decode cX12_init 427 = .ok (.bastore, 1) := dq0 kk_84 (by decide +kernel)
theorem dX12_init_428 : decode cX12_init 428 = .ok (.dup, 1) := dq0 kk_89 (by decide +kernel)
theorem dX12_init_429 : decode cX12_init 429 = .ok (.bipush 66, 2) := dqS kk_16 (by decide +kernel)
theorem dX12_init_431 : decode cX12_init 431 = .ok (.bipush 104, 2) := dqS kk_16 (by decide +kernel)
theorem dX12_init_433 : decode cX12_init 433 = .ok (.bastore, 1) := dq0 kk_84 (by decide +kernel)
theorem dX12_init_434 : decode cX12_init 434 = .ok (.dup, 1) := dq0 kk_89 (by decide +kernel)
theorem dX12_init_435 : decode cX12_init 435 = .ok (.bipush 67, 2) := dqS kk_16 (by decide +kernel)
theorem dX12_init_437 : decode cX12_init 437 = .ok (.bipush 105, 2) := dqS kk_16 (by decide +kernel)
theorem dX12_init_439 : decode cX12_init 439 = .ok (.bastore, 1) := dq0 kk_84 (by decide +kernel)
theorem dX12_init_440 : decode cX12_init 440 = .ok (.dup, 1) := dq0 kk_89 (by decide +kernel)
theorem dX12_init_441 : decode cX12_init 441 = .ok (.bipush 68, 2) := dqS kk_16 (by decide +kernel)
theorem dX12_init_443 : decode cX12_init 443 = .ok (.bipush 103, 2) := dqS kk_16 (by decide +kernel)
theorem dX12_init_445 : decode cX12_init 445 = .ok (.bastore, 1) := dq0 kk_84 (by decide +kernel)
theorem dX12_init_446 : decode cX12_init 446 = .ok (.dup, 1) := dq0 kk_89 (by decide +kernel)
theorem dX12_init_447 : decode cX12_init 447 = .ok (.bipush 69, 2) := dqS kk_16 (by decide +kernel)
theorem dX12_init_449 : decode cX12_init 449 = .ok (.bipush 104, 2) := dqS kk_16 (by decide +kernel)
theorem dX12_init_451 : decode cX12_init 451 = .ok (.bastore, 1) := dq0 kk_84 (by decide +kernel)
theorem dX12_init_452 : decode cX12_init 452 = .ok (.dup, 1) := dq0 kk_89 (by decide +kernel)
theorem dX12_init_453 : decode cX12_init 453 = .ok (.bipush 70, 2) := dqS kk_16 (by decide +kernel)
theorem dX12_init_455 : decode cX12_init 455 = .ok (.iconst 0, 1) := dq0 kk_3 (by decide +kernel)
theorem dX12_init_456 : decode cX12_init 456 = .ok (.bastore, 1) := dq0 kk_84 (by decide +kernel)
theorem dX12_init_457 : decode cX12_init 457 = .ok (.dup, 1) := dq0 kk_89 (by decide +kernel)
theorem dX12_init_458 : decode cX12_init 458 = .ok (.bipush 71, 2) := dqS kk_16 (by decide +kernel)
theorem dX12_init_460 : decode cX12_init 460 = .ok (.bipush 97, 2) := dqS kk_16 (by decide +kernel)
theorem dX12_init_462 : decode cX12_init 462 = .ok (.bastore, 1) := dq0 kk_84 (by decide +kernel)
theorem dX12_init_463 : decode cX12_init 463 = .ok (.dup, 1) := dq0 kk_89 (by decide +kernel)
theorem dX12_init_464 : decode cX12_init 464 = .ok (.bipush 72, 2) := dqS kk_16 (by decide +kernel)
theorem dX12_init_466 : decode cX12_init 466 = .ok (.bipush 110, 2) := dqS kk_16 (by decide +kernel)
theorem dX12_init_468 : decode cX12_init 468 = .ok (.bastore, 1) := dq0 kk_84 (by decide +kernel)
theorem dX12_init_469 : decode cX12_init 469 = .ok (.dup, 1) := dq0 kk_89 (by decide +kernel)
theorem dX12_init_470 : decode cX12_init 470 = .ok (.bipush 73, 2) := dqS kk_16 (by decide +kernel)
theorem dX12_init_472 : decode cX12_init 472 = .ok (.bipush 121, 2) := dqS kk_16 (by decide +kernel)
theorem dX12_init_474 : decode cX12_init 474 = .ok (.bastore, 1) := dq0 kk_84 (by decide +kernel)
theorem dX12_init_475 : decode cX12_init 475 = .ok (.dup, 1) := dq0 kk_89 (by decide +kernel)
theorem dX12_init_476 : decode cX12_init 476 = .ok (.bipush 74, 2) := dqS kk_16 (by decide +kernel)
theorem dX12_init_478 : decode cX12_init 478 = .ok (.iconst 0, 1) := dq0 kk_3 (by decide +kernel)
theorem dX12_init_479 : decode cX12_init 479 = .ok (.bastore, 1) := dq0 kk_84 (by decide +kernel)
theorem dX12_init_480 : decode cX12_init 480 = .ok (.dup, 1) := dq0 kk_89 (by decide +kernel)
theorem dX12_init_481 : decode cX12_init 481 = .ok (.bipush 75, 2) := dqS kk_16 (by decide +kernel)
theorem dX12_init_483 : decode cX12_init 483 = .ok (.bipush 114, 2) := dqS kk_16 (by decide +kernel)
theorem dX12_init_485 : decode cX12_init 485 = .ok (.bastore, 1) := dq0 kk_84 (by decide +kernel)
theorem dX12_init_486 : decode cX12_init 486 = .ok (.dup, 1) := dq0 kk_89 (by decide +kernel)
theorem dX12_init_487 : decode cX12_init 487 = .ok (.bipush 76, 2) := dqS kk_16 (by decide +kernel)
theorem dX12_init_489 : decode cX12_init 489 = .ok (.bipush 105, 2) := dqS kk_16 (by decide +kernel)
theorem dX12_init_491 : decode cX12_init 491 = .ok (.bastore, 1) := dq0 kk_84 (by decide +kernel)
theorem dX12_init_492 : decode cX12_init 492 = .ok (.dup, 1) := dq0 kk_89 (by decide +kernel)
theorem dX12_init_493 : decode cX12_init 493 = .ok (.bipush 77, 2) := dqS kk_16 (by decide +kernel)
theorem dX12_init_495 : decode cX12_init 495 = .ok (.bipush 103, 2) := dqS kk_16 (by decide +kernel)
theorem dX12_init_497 : decode cX12_init 497 = .ok (.bastore, 1) := dq0 kk_84 (by decide +kernel)
theorem dX12_init_498 : decode cX12_init 498 = .ok (.dup, 1) := dq0 kk_89 (by decide +kernel)
theorem dX12_init_499 : decode cX12_init 499 = .ok (.bipush 78, 2) := dqS kk_16 (by decide +kernel)
theorem dX12_init_501 : decode cX12_init 501 = .ok (.bipush 104, 2) := dqS kk_16 (by decide +kernel)
theorem dX12_init_503 : decode cX12_init 503 = .ok (.bastore, 1) := dq0 kk_84 (by decide +kernel)
theorem dX12_init_504 : decode cX12_init 504 = .ok (.dup, 1) := dq0 kk_89 (by decide +kernel)
theorem dX12_init_505 : decode cX12_init 505 = .ok (.bipush 79, 2) := dqS kk_16 (by decide +kernel)
theorem dX12_init_507 : decode cX12_init 507 = .ok (.bipush 116, 2) := dqS kk_16 (by decide +kernel)
theorem dX12_init_509 : decode cX12_init 509 = .ok (.bastore, 1) := dq0 kk_84 (by decide +kernel)
theorem dX12_init_510 : decode cX12_init 510 = .ok (.dup, 1) := dq0 kk_89 (by decide +kernel)
theorem dX12_init_511 : decode cX12_init 511 = .ok (.bipush 80, 2) := dqS kk_16 (by decide +kernel)
theorem dX12_init_513 : decode cX12_init 513 = .ok (.iconst 0, 1) := dq0 kk_3 (by decide +kernel)
theorem dX12_init_514 : decode cX12_init 514 = .ok (.bastore, 1) := dq0 kk_84 (by decide +kernel)
theorem dX12_init_515 : decode cX12_init 515 = .ok (.dup, 1) := dq0 kk_89 (by decide +kernel)
theorem dX12_init_516 : decode cX12_init 516 = .ok (.bipush 81, 2) := dqS kk_16 (by decide +kernel)
theorem dX12_init_518 : decode cX12_init 518 = .ok (.bipush 108, 2) := dqS kk_16 (by decide +kernel)
theorem dX12_init_520 : decode cX12_init 520 = .ok (.bastore, 1) := dq0 kk_84 (by decide +kernel)
theorem dX12_init_521 : decode cX12_init 521 = .ok (.dup, 1) := dq0 kk_89 (by decide +kernel)
theorem dX12_init_522 : decode cX12_init 522 = .ok (.bipush 82, 2) := dqS kk_16 (by decide +kernel)
theorem dX12_init_524 : decode cX12_init 524 = .ok (.bipush 101, 2) := dqS kk_16 (by decide +kernel)
theorem dX12_init_526 : decode cX12_init 526 = .ok (.bastore, 1) := dq0 kk_84 (by decide +kernel)
theorem dX12_init_527 : decode cX12_init 527 = .ok (.dup, 1) := dq0 kk_89 (by decide +kernel)
theorem dX12_init_528 : decode cX12_init 528 = .ok (.bipush 83, 2) := dqS kk_16 (by decide +kernel)
theorem dX12_init_530 : decode cX12_init 530 = .ok (.bipush 102, 2) := dqS kk_16 (by decide +kernel)
theorem dX12_init_532 : decode cX12_init 532 = .ok (.bastore, 1) := dq0 kk_84 (by decide +kernel)
theorem dX12_init_533 : decode cX12_init 533 = .ok (.dup, 1) := dq0 kk_89 (by decide +kernel)
theorem dX12_init_534 : decode cX12_init 534 = .ok (.bipush 84, 2) := dqS kk_16 (by decide +kernel)
theorem dX12_init_536 : decode cX12_init 536 = .ok (.bipush 116, 2) := dqS kk_16 (by decide +kernel)
theorem dX12_init_538 : decode cX12_init 538 = .ok (.bastore, 1) := dq0 kk_84 (by decide +kernel)
theorem dX12_init_539 : decode cX12_init 539 = .ok (.dup, 1) := dq0 kk_89 (by decide +kernel)
theorem dX12_init_540 : decode cX12_init 540 = .ok (.bipush 85, 2) := dqS kk_16 (by decide +kernel)
theorem dX12_init_542 : decode cX12_init 542 = .ok (.iconst 0, 1) := dq0 kk_3 (by decide +kernel)
theorem dX12_init_543 : decode cX12_init 543 = .ok (.bastore, 1) := dq0 kk_84 (by decide +kernel)
theorem dX12_init_544 : decode cX12_init 544 = .ok (.dup, 1) := dq0 kk_89 (by decide +kernel)
theorem dX12_init_545 : decode cX12_init 545 = .ok (.bipush 86, 2) := dqS kk_16 (by decide +kernel)
theorem dX12_init_547 : decode cX12_init 547 = .ok (.bipush 102, 2) := dqS kk_16 (by decide +kernel)
theorem dX12_init_549 : decode cX12_init 549 = .ok (.bastore, 1) := dq0 kk_84 (by decide +kernel)
theorem dX12_init_550 : decode cX12_init 550 = .ok (.dup, 1) := dq0 kk_89 (by decide +kernel)
theorem dX12_init_551 : decode cX12_init 551 = .ok (.bipush 87, 2) := dqS kk_16 (by decide +kernel)
theorem dX12_init_553 : decode cX12_init 553 = .ok (.bipush 105, 2) := dqS kk_16 (by decide +kernel)
theorem dX12_init_555 : decode cX12_init 555 = .ok (.bastore, 1) := dq0 kk_84 (by decide +kernel)
theorem dX12_init_556 : decode cX12_init 556 = .ok (.dup, 1) := dq0 kk_89 (by decide +kernel)
theorem dX12_init_557 : decode cX12_init 557 = .ok (.bipush 88, 2) := dqS kk_16 (by decide +kernel)
theorem dX12_init_559 : decode cX12_init 559 = .ok (.bipush 114, 2) := dqS kk_16 (by decide +kernel)
theorem dX12_init_561 : decode cX12_init 561 = .ok (.bastore, 1) := dq0 kk_84 (by decide +kernel)
theorem dX12_init_562 : decode cX12_init 562 = .ok (.dup, 1) := dq0 kk_89 (by decide +kernel)
theorem dX12_init_563 : decode cX12_init 563 = .ok (.bipush 89, 2) := dqS kk_16 (by decide +kernel)
theorem dX12_init_565 : decode cX12_init 565 = .ok (.bipush 115, 2) := dqS kk_16 (by decide +kernel)
theorem dX12_init_567 : decode cX12_init 567 = .ok (.bastore, 1) := dq0 kk_84 (by decide +kernel)
theorem dX12_init_568 : decode cX12_init 568 = .ok (.dup, 1) := dq0 kk_89 (by decide +kernel)
theorem dX12_init_569 : decode cX12_init 569 = .ok (.bipush 90, 2) := dqS kk_16 (by decide +kernel)
theorem dX12_init_571 : decode cX12_init 571 = .ok (.bipush 116, 2) := dqS kk_16 (by decide +kernel)
theorem dX12_init_573 : decode cX12_init 573 = .ok (.bastore, 1) := dq0 kk_84 (by decide +kernel)
theorem dX12_init_574 : decode cX12_init 574 = .ok (.dup, 1) := dq0 kk_89 (by decide +kernel)
theorem dX12_init_575 : decode cX12_init 575 = .ok (.bipush 91, 2) := dqS kk_16 (by decide +kernel)
theorem dX12_init_577 : decode cX12_init 577 = .ok (.iconst 0, 1) := dq0 kk_3 (by decide +kernel)
theorem dX12_init_578 : decode cX12_init 578 = .ok (.bastore, 1) := dq0 kk_84 (by decide +kernel)
theorem dX12_init_579 : decode cX12_init 579 = .ok (.dup, 1) := dq0 kk_89 (by decide +kernel)
theorem dX12_init_580 : decode cX12_init 580 = .ok (.bipush 92, 2) := dqS kk_16 (by decide +kernel)
theorem dX12_init_582 : decode cX12_init 582 = .ok (.bipush 108, 2) := dqS kk_16 (by decide +kernel)
theorem dX12_init_584 : decode cX12_init 584 = .ok (.bastore, 1) := dq0 kk_84 (by decide +kernel)
theorem dX12_init_585 : decode cX12_init 585 = .ok (.dup, 1) := dq0 kk_89 (by decide +kernel)
theorem dX12_init_586 : decode cX12_init 586 = .ok (.bipush 93, 2) := dqS kk_16 (by decide +kernel)
theorem dX12_init_588 : decode cX12_init 588 = .ok (.bipush 97, 2) := dqS kk_16 (by decide +kernel)
theorem dX12_init_590 : decode cX12_init 590 = .ok (.bastore, 1) := dq0 kk_84 (by decide +kernel)
theorem dX12_init_591 : decode cX12_init 591 = .ok (.dup, 1) := dq0 kk_89 (by decide +kernel)
theorem dX12_init_592 : decode cX12_init 592 = .ok (.bipush 94, 2) := dqS kk_16 (by decide +kernel)
theorem dX12_init_594 : decode cX12_init 594 = .ok (.bipush 115, 2) := dqS kk_16 (by decide +kernel)
theorem dX12_init_596 : decode cX12_init 596 = .ok (.bastore, 1) := dq0 kk_84 (by decide +kernel)
theorem dX12_init_597 : decode cX12_init 597 = .ok (.dup, 1) := dq0 kk_89 (by decide +kernel)
theorem dX12_init_598 : decode cX12_init 598 = .ok (.bipush 95, 2) := dqS kk_16 (by decide +kernel)
theorem dX12_init_600 : decode cX12_init 600 = .ok (.bipush 116, 2) := dqS kk_16 (by decide +kernel)
theorem dX12_init_602 : decode cX12_init 602 = .ok (.bastore, 1) := dq0 kk_84 (by decide +kernel)
theorem dX12_init_603 : decode cX12_init 603 = .ok (.dup, 1) := dq0 kk_89 (by decide +kernel)
theorem dX12_init_604 : decode cX12_init 604 = .ok (.bipush 96, 2) := dqS kk_16 (by decide +kernel)
theorem dX12_init_606 : decode cX12_init 606 = .ok (.iconst 0, 1) := dq0 kk_3 (by decide +kernel)
theorem dX12_init_607 : decode cX12_init 607 = .ok (.bastore, 1) := dq0 kk_84 (by decide +kernel)
theorem dX12_init_608 : decode cX12_init 608 = .ok (.dup, 1) := dq0 kk_89 (by decide +kernel)
theorem dX12_init_609 : decode cX12_init 609 = .ok (.bipush 97, 2) := dqS kk_16 (by decide +kernel)
theorem dX12_init_611 : decode cX12_init 611 = .ok (.bipush 116, 2) := dqS kk_16 (by decide +kernel)
theorem dX12_init_613 : decode cX12_init 613 = .ok (.bastore, 1) := dq0 kk_84 (by decide +kernel)
theorem dX12_init_614 : decode cX12_init 614 = .ok (.dup, 1) := dq0 kk_89 (by decide +kernel)
theorem dX12_init_615 : decode cX12_init 615 = .ok (.bipush 98, 2) := dqS kk_16 (by decide +kernel)
theorem dX12_init_617 : decode cX12_init 617 = .ok (.bipush 111, 2) := dqS kk_16 (by decide +kernel)
theorem dX12_init_619 : decode cX12_init 619 = .ok (.bastore, 1) := dq0 kk_84 (by decide +kernel)
theorem dX12_init_620 : decode cX12_init 620 = .ok (.dup, 1) := dq0 kk_89 (by decide +kernel)
theorem dX12_init_621 : decode cX12_init 621 = .ok (.bipush 99, 2) := dqS kk_16 (by decide +kernel)
theorem dX12_init_623 : decode cX12_init 623 = .ok (.iconst 0, 1) := dq0 kk_3 (by decide +kernel)
theorem dX12_init_624 : decode cX12_init 624 = .ok (.bastore, 1) := dq0 kk_84 (by decide +kernel)
theorem dX12_init_625 : decode cX12_init 625 = .ok (.dup, 1) := dq0 kk_89 (by decide +kernel)
theorem dX12_init_626 : decode cX12_init 626 = .ok (.bipush 100, 2) := dqS kk_16 (by decide +kernel)
theorem dX12_init_628 : decode cX12_init 628 = .ok (.bipush 105, 2) := dqS kk_16 (by decide +kernel)
theorem dX12_init_630 : decode cX12_init 630 = .ok (.bastore, 1) := dq0 kk_84 (by decide +kernel)
theorem dX12_init_631 : decode cX12_init 631 = .ok (.dup, 1) := dq0 kk_89 (by decide +kernel)
theorem dX12_init_632 : decode cX12_init 632 = .ok (.bipush 101, 2) := dqS kk_16 (by decide +kernel)
theorem dX12_init_634 : decode cX12_init 634 = .ok (.bipush 102, 2) := dqS kk_16 (by decide +kernel)
theorem dX12_init_636 : decode cX12_init 636 = .ok (.bastore, 1) := dq0 kk_84 (by decide +kernel)
theorem dX12_init_637 : decode cX12_init 637 = .ok (.dup, 1) := dq0 kk_89 (by decide +kernel)
theorem dX12_init_638 : decode cX12_init 638 = .ok (.bipush 102, 2) := dqS kk_16 (by decide +kernel)
theorem dX12_init_640 : decode cX12_init 640 = .ok (.iconst 0, 1) := dq0 kk_3 (by decide +kernel)
theorem dX12_init_641 : decode cX12_init 641 = .ok (.bastore, 1) := dq0 kk_84 (by decide +kernel)
theorem dX12_init_642 : decode cX12_init 642 = .ok (.dup, 1) := dq0 kk_89 (by decide +kernel)
theorem dX12_init_643 : decode cX12_init 643 = .ok (.bipush 103, 2) := dqS kk_16 (by decide +kernel)
theorem dX12_init_645 : decode cX12_init 645 = .ok (.bipush 110, 2) := dqS kk_16 (by decide +kernel)
theorem dX12_init_647 : decode cX12_init 647 = .ok (.bastore, 1) := dq0 kk_84 (by decide +kernel)
theorem dX12_init_648 : decode cX12_init 648 = .ok (.dup, 1) := dq0 kk_89 (by decide +kernel)
theorem dX12_init_649 : decode cX12_init 649 = .ok (.bipush 104, 2) := dqS kk_16 (by decide +kernel)
theorem dX12_init_651 : decode cX12_init 651 = .ok (.bipush 111, 2) := dqS kk_16 (by decide +kernel)
theorem dX12_init_653 : decode cX12_init 653 = .ok (.bastore, 1) := dq0 kk_84 (by decide +kernel)
theorem dX12_init_654 : decode cX12_init 654 = .ok (.dup, 1) := dq0 kk_89 (by decide +kernel)
theorem dX12_init_655 : decode cX12_init 655 = .ok (.bipush 105, 2) := dqS kk_16 (by decide +kernel)
theorem dX12_init_657 : decode cX12_init 657 = .ok (.bipush 116, 2) := dqS kk_16 (by decide +kernel)
theorem dX12_init_659 : decode cX12_init 659 = .ok (.bastore, 1) := dq0 kk_84 (by decide +kernel)
theorem dX12_init_660 : decode cX12_init 660 = .ok (.dup, 1) := dq0 kk_89 (by decide +kernel)
theorem dX12_init_661 : decode cX12_init 661 = .ok (.bipush 106, 2) := dqS kk_16 (by decide +kernel)
theorem dX12_init_663 : decode cX12_init 663 = .ok (.iconst 0, 1) := dq0 kk_3 (by decide +kernel)
theorem dX12_init_664 : decode cX12_init 664 = .ok (.bastore, 1) := dq0 kk_84 (by decide +kernel)
theorem dX12_init_665 : decode cX12_init 665 = .ok (.dup, 1) := dq0 kk_89 (by decide +kernel)
theorem dX12_init_666 : decode cX12_init 666 = .ok (.bipush 107, 2) := dqS kk_16 (by decide +kernel)
theorem dX12_init_668 : decode cX12_init 668 = .ok (.bipush 98, 2) := dqS kk_16 (by decide +kernel)
theorem dX12_init_670 : decode cX12_init 670 = .ok (.bastore, 1) := dq0 kk_84 (by decide +kernel)
theorem dX12_init_671 : decode cX12_init 671 = .ok (.dup, 1) := dq0 kk_89 (by decide +kernel)
theorem dX12_init_672 : decode cX12_init 672 = .ok (.bipush 108, 2) := dqS kk_16 (by decide +kernel)
theorem dX12_init_674 : decode cX12_init 674 = .ok (.bipush 101, 2) := dqS kk_16 (by decide +kernel)
theorem dX12_init_676 : decode cX12_init 676 = .ok (.bastore, 1) := dq0 kk_84 (by decide +kernel)
theorem dX12_init_677 : decode cX12_init 677 = .ok (.dup, 1) := dq0 kk_89 (by decide +kernel)
theorem dX12_init_678 : decode cX12_init 678 = .ok (.bipush 109, 2) := dqS kk_16 (by decide +kernel)
theorem dX12_init_680 : decode cX12_init 680 = .ok (.bipush 103, 2) := dqS kk_16 (by decide +kernel)
theorem dX12_init_682 : decode cX12_init 682 = .ok (.bastore, 1) := dq0 kk_84 (by decide +kernel)
theorem dX12_init_683 : decode cX12_init 683 = .ok (.dup, 1) := dq0 kk_89 (by decide +kernel)
theorem dX12_init_684 : decode cX12_init 684 = .ok (.bipush 110, 2) := dqS kk_16 (by decide +kernel)
theorem dX12_init_686 : decode cX12_init 686 = .ok (.bipush 105, 2) := dqS kk_16 (by decide +kernel)
theorem dX12_init_688 : decode cX12_init 688 = .ok (.bastore, 1) := dq0 kk_84 (by decide +kernel)
theorem dX12_init_689 : decode cX12_init 689 = .ok (.dup, 1) := dq0 kk_89 (by decide +kernel)
theorem dX12_init_690 : decode cX12_init 690 = .ok (.bipush 111, 2) := dqS kk_16 (by decide +kernel)
theorem dX12_init_692 : decode cX12_init 692 = .ok (.bipush 110, 2) := dqS kk_16 (by decide +kernel)
theorem dX12_init_694 : decode cX12_init 694 = .ok (.bastore, 1) := dq0 kk_84 (by decide +kernel)
theorem dX12_init_695 : decode cX12_init 695 = .ok (.dup, 1) := dq0 kk_89 (by decide +kernel)
theorem dX12_init_696 : decode cX12_init 696 = .ok (.bipush 112, 2) := dqS kk_16 (by decide +kernel)
theorem dX12_init_698 : decode cX12_init 698 = .ok (.iconst 0, 1) := dq0 kk_3 (by decide +kernel)
theorem dX12_init_699 : decode cX12_init 699 = .ok (.bastore, 1) := dq0 kk_84 (by decide +kernel)
theorem dX12_init_700 : decode cX12_init 700 = .ok (.dup, 1) := dq0 kk_89 (by decide +kernel)
theorem dX12_init_701 : decode cX12_init 701 = .ok (.bipush 113, 2) := dqS kk_16 (by decide +kernel)
theorem dX12_init_703 : decode cX12_init 703 = .ok (.bipush 101, 2) := dqS kk_16 (by decide +kernel)
theorem dX12_init_705 : decode cX12_init 705 = .ok (.bastore, 1) := dq0 kk_84 (by decide +kernel)
theorem dX12_init_706 : decode cX12_init 706 = .ok (.dup, 1) := dq0 kk_89 (by decide +kernel)
theorem dX12_init_707 : decode cX12_init 707 = .ok (.bipush 114, 2) := dqS kk_16 (by decide +kernel)
theorem dX12_init_709 : decode cX12_init 709 = .ok (.bipush 110, 2) := dqS kk_16 (by decide +kernel)
theorem dX12_init_711 : decode cX12_init 711 = .ok (.bastore, 1) := dq0 kk_84 (by decide +kernel)
theorem dX12_init_712 : decode cX12_init 712 = .ok (.dup, 1) := dq0 kk_89 (by decide +kernel)
theorem dX12_init_713 : decode cX12_init 713 = .ok (.bipush 115, 2) := dqS kk_16 (by decide +kernel)
theorem dX12_init_715 : decode cX12_init 715 = .ok (.bipush 100, 2) := dqS kk_16 (by decide +kernel)
theorem dX12_init_717 : decode cX12_init 717 = .ok (.bastore, 1) := dq0 kk_84 (by decide +kernel)
theorem dX12_init_718 : decode cX12_init 718 = .ok (.dup, 1) := dq0 kk_89 (by decide +kernel)
theorem dX12_init_719 : decode cX12_init 719 = .ok (.bipush 116, 2) := dqS kk_16 (by decide +kernel)
theorem dX12_init_721 : decode cX12_init 721 = .ok (.iconst 0, 1) := dq0 kk_3 (by decide +kernel)
theorem dX12_init_722 : decode cX12_init 722 = .ok (.bastore, 1) := dq0 kk_84 (by decide +kernel)
theorem dX12_init_723 : decode cX12_init 723 = .ok (.dup, 1) := dq0 kk_89 (by decide +kernel)
theorem dX12_init_724 : decode cX12_init 724 = .ok (.bipush 117, 2) := dqS kk_16 (by decide +kernel)
theorem dX12_init_726 : decode cX12_init 726 = .ok (.bipush 104, 2) := dqS kk_16 (by decide +kernel)
theorem dX12_init_728 : decode cX12_init 728 = .ok (.bastore, 1) := dq0 kk_84 (by decide +kernel)
theorem dX12_init_729 : decode cX12_init 729 = .ok (.dup, 1) := dq0 kk_89 (by decide +kernel)
theorem dX12_init_730 : decode cX12_init 730 = .ok (.bipush 118, 2) := dqS kk_16 (by decide +kernel)
theorem dX12_init_732 : decode cX12_init 732 = .ok (.bipush 101, 2) := dqS kk_16 (by decide +kernel)
theorem dX12_init_734 : decode cX12_init 734 = .ok (.bastore, 1) := dq0 kk_84 (by decide +kernel)
theorem dX12_init_735 : decode cX12_init 735 = .ok (.dup, 1) := dq0 kk_89 (by decide +kernel)
theorem dX12_init_736 : decode cX12_init 736 = .ok (.bipush 119, 2) := dqS kk_16 (by decide +kernel)
theorem dX12_init_738 : decode cX12_init 738 = .ok (.bipush 97, 2) := dqS kk_16 (by decide +kernel)
theorem dX12_init_740 : decode cX12_init 740 = .ok (.bastore, 1) := dq0 kk_84 (by decide +kernel)
theorem dX12_init_741 : decode cX12_init 741 = .ok (.dup, 1) := dq0 kk_89 (by decide +kernel)
theorem dX12_init_742 : decode cX12_init 742 = .ok (.bipush 120, 2) := dqS kk_16 (by decide +kernel)
theorem dX12_init_744 : decode cX12_init 744 = .ok (.bipush 118, 2) := dqS kk_16 (by decide +kernel)
theorem dX12_init_746 : decode cX12_init 746 = .ok (.bastore, 1) := dq0 kk_84 (by decide +kernel)
theorem dX12_init_747 : decode cX12_init 747 = .ok (.dup, 1) := dq0 kk_89 (by decide +kernel)
theorem dX12_init_748 : decode cX12_init 748 = .ok (.bipush 121, 2) := dqS kk_16 (by decide +kernel)
theorem dX12_init_750 : decode cX12_init 750 = .ok (.bipush 121, 2) := dqS kk_16 (by decide +kernel)
theorem dX12_init_752 : decode cX12_init 752 = .ok (.bastore, 1) := dq0 kk_84 (by decide +kernel)
theorem dX12_init_753 : decode cX12_init 753 = .ok (.dup, 1) := dq0 kk_89 (by decide +kernel)
theorem dX12_init_754 : decode cX12_init 754 = .ok (.bipush 122, 2) := dqS kk_16 (by decide +kernel)
theorem dX12_init_756 : decode cX12_init 756 = .ok (.iconst 0, 1) := dq0 kk_3 (by decide +kernel)
theorem dX12_init_757 : decode cX12_init 757 = .ok (.bastore, 1) := dq0 kk_84 (by decide +kernel)
theorem dX12_init_758 : decode cX12_init 758 = .ok (.dup, 1) := dq0 kk_89 (by decide +kernel)
theorem dX12_init_759 : decode cX12_init 759 = .ok (.bipush 123, 2) := dqS kk_16 (by decide +kernel)
theorem dX12_init_761 : decode cX12_init 761 = .ok (.bipush 109, 2) := dqS kk_16 (by decide +kernel)
theorem dX12_init_763 : decode cX12_init 763 = .ok (.bastore, 1) := dq0 kk_84 (by decide +kernel)
theorem dX12_init_764 : decode cX12_init 764 = .ok (.dup, 1) := dq0 kk_89 (by decide +kernel)
theorem dX12_init_765 : decode cX12_init 765 = .ok (.bipush 124, 2) := dqS kk_16 (by decide +kernel)
theorem dX12_init_767 : decode cX12_init 767 = .ok (.bipush 97, 2) := dqS kk_16 (by decide +kernel)
theorem dX12_init_769 : decode cX12_init 769 = .ok (.bastore, 1) := dq0 kk_84 (by decide +kernel)
theorem dX12_init_770 : decode cX12_init 770 = .ok (.dup, 1) := dq0 kk_89 (by decide +kernel)
theorem dX12_init_771 : decode cX12_init 771 = .ok (.bipush 125, 2) := dqS kk_16 (by decide +kernel)
theorem dX12_init_773 : decode cX12_init 773 = .ok (.bipush 110, 2) := dqS kk_16 (by decide +kernel)
theorem dX12_init_775 : decode cX12_init 775 = .ok (.bastore, 1) := dq0 kk_84 (by decide +kernel)
theorem dX12_init_776 : decode cX12_init 776 = .ok (.dup, 1) := dq0 kk_89 (by decide +kernel)
theorem dX12_init_777 : decode cX12_init 777 = .ok (.bipush 126, 2) := dqS kk_16 (by decide +kernel)
theorem dX12_init_779 : decode cX12_init 779 = .ok (.bipush 121, 2) := dqS kk_16 (by decide +kernel)
theorem dX12_init_781 : decode cX12_init 781 = .ok (.bastore, 1) := dq0 kk_84 (by decide +kernel)
theorem dX12_init_782 : decode cX12_init 782 = .ok (.dup, 1) := dq0 kk_89 (by decide +kernel)
theorem dX12_init_783 : decode cX12_init 783 = .ok (.bipush 127, 2) := dqS kk_16 (by decide +kernel)
theorem dX12_init_785 : decode cX12_init 785 = .ok (.iconst 0, 1) := dq0 kk_3 (by decide +kernel)
theorem dX12_init_786 : decode cX12_init 786 = .ok (.bastore, 1) := dq0 kk_84 (by decide +kernel)
theorem dX12_init_787 : decode cX12_init 787 = .ok (.dup, 1) := dq0 kk_89 (by decide +kernel)
theorem dX12_init_788 : decode cX12_init 788 = .ok (.sipush 128, 3) := dqT kk_17 (by decide +kernel)
theorem dX12_init_791 : decode cX12_init 791 = .ok (.bipush 102, 2) := dqS kk_16 (by decide +kernel)
theorem dX12_init_793 : decode cX12_init 793 = .ok (.bastore, 1) := dq0 kk_84 (by decide +kernel)
theorem dX12_init_794 : decode cX12_init 794 = .ok (.dup, 1) := dq0 kk_89 (by decide +kernel)
theorem dX12_init_795 : decode cX12_init 795 = .ok (.sipush 129, 3) := dqT kk_17 (by decide +kernel)
theorem dX12_init_798 : decode cX12_init 798 = .ok (.bipush 108, 2) := dqS kk_16 (by decide +kernel)
theorem dX12_init_800 : decode cX12_init 800 = .ok (.bastore, 1) := dq0 kk_84 (by decide +kernel)
theorem dX12_init_801 : decode cX12_init 801 = .ok (.dup, 1) := dq0 kk_89 (by decide +kernel)
theorem dX12_init_802 : decode cX12_init 802 = .ok (.sipush 130, 3) := dqT kk_17 (by decide +kernel)
theorem dX12_init_805 : decode cX12_init 805 = .ok (.bipush 111, 2) := dqS kk_16 (by decide +kernel)
theorem dX12_init_807 : decode cX12_init 807 = .ok (.bastore, 1) := dq0 kk_84 (by decide +kernel)
theorem dX12_init_808 : decode cX12_init 808 = .ok (.dup, 1) := dq0 kk_89 (by decide +kernel)
theorem dX12_init_809 : decode cX12_init 809 = .ok (.sipush 131, 3) := dqT kk_17 (by decide +kernel)
theorem dX12_init_812 : decode cX12_init 812 = .ok (.bipush 97, 2) := dqS kk_16 (by decide +kernel)
theorem dX12_init_814 : decode cX12_init 814 = .ok (.bastore, 1) := dq0 kk_84 (by decide +kernel)
theorem dX12_init_815 : decode cX12_init 815 = .ok (.dup, 1) := dq0 kk_89 (by decide +kernel)
theorem dX12_init_816 : decode cX12_init 816 = .ok (.sipush 132, 3) := dqT kk_17 (by decide +kernel)
theorem dX12_init_819 : decode cX12_init 819 = .ok (.bipush 116, 2) := dqS kk_16 (by decide +kernel)
theorem dX12_init_821 : decode cX12_init 821 = .ok (.bastore, 1) := dq0 kk_84 (by decide +kernel)
theorem dX12_init_822 : decode cX12_init 822 = .ok (.dup, 1) := dq0 kk_89 (by decide +kernel)
theorem dX12_init_823 : decode cX12_init 823 = .ok (.sipush 133, 3) := dqT kk_17 (by decide +kernel)
theorem dX12_init_826 : decode cX12_init 826 = .ok (.iconst 0, 1) := dq0 kk_3 (by decide +kernel)
theorem dX12_init_827 : decode cX12_init 827 = .ok (.bastore, 1) := dq0 kk_84 (by decide +kernel)
theorem dX12_init_828 : decode cX12_init 828 = .ok (.dup, 1) := dq0 kk_89 (by decide +kernel)
theorem dX12_init_829 : decode cX12_init 829 = .ok (.sipush 134, 3) := dqT kk_17 (by decide +kernel)
theorem dX12_init_832 : decode cX12_init 832 = .ok (.bipush 98, 2) := dqS kk_16 (by decide +kernel)
theorem dX12_init_834 : decode cX12_init 834 = .ok (.bastore, 1) := dq0 kk_84 (by decide +kernel)
theorem dX12_init_835 : decode cX12_init 835 = .ok (.dup, 1) := dq0 kk_89 (by decide +kernel)
theorem dX12_init_836 : decode cX12_init 836 = .ok (.sipush 135, 3) := dqT kk_17 (by decide +kernel)
theorem dX12_init_839 : decode cX12_init 839 = .ok (.bipush 101, 2) := dqS kk_16 (by decide +kernel)
theorem dX12_init_841 : decode cX12_init 841 = .ok (.bastore, 1) := dq0 kk_84 (by decide +kernel)
theorem dX12_init_842 : decode cX12_init 842 = .ok (.dup, 1) := dq0 kk_89 (by decide +kernel)
theorem dX12_init_843 : decode cX12_init 843 = .ok (.sipush 136, 3) := dqT kk_17 (by decide +kernel)
theorem dX12_init_846 : decode cX12_init 846 = .ok (.bipush 102, 2) := dqS kk_16 (by decide +kernel)
theorem dX12_init_848 : decode cX12_init 848 = .ok (.bastore, 1) := dq0 kk_84 (by decide +kernel)
theorem dX12_init_849 : decode cX12_init 849 = .ok (.dup, 1) := dq0 kk_89 (by decide +kernel)
theorem dX12_init_850 : decode cX12_init 850 = .ok (.sipush 137, 3) := dqT kk_17 (by decide +kernel)
theorem dX12_init_853 : decode cX12_init 853 = .ok (.bipush 111, 2) := dqS kk_16 (by decide +kernel)
theorem dX12_init_855 : decode cX12_init 855 = .ok (.bastore, 1) := dq0 kk_84 (by decide +kernel)
theorem dX12_init_856 : decode cX12_init 856 = .ok (.dup, 1) := dq0 kk_89 (by decide +kernel)
theorem dX12_init_857 : decode cX12_init 857 = .ok (.sipush 138, 3) := dqT kk_17 (by decide +kernel)
theorem dX12_init_860 : decode cX12_init 860 = .ok (.bipush 114, 2) := dqS kk_16 (by decide +kernel)
theorem dX12_init_862 : decode cX12_init 862 = .ok (.bastore, 1) := dq0 kk_84 (by decide +kernel)
theorem dX12_init_863 : decode cX12_init 863 = .ok (.dup, 1) := dq0 kk_89 (by decide +kernel)
theorem dX12_init_864 : decode cX12_init 864 = .ok (.sipush 139, 3) := dqT kk_17 (by decide +kernel)
theorem dX12_init_867 : decode cX12_init 867 = .ok (.bipush 101, 2) := dqS kk_16 (by decide +kernel)
theorem dX12_init_869 : decode cX12_init 869 = .ok (.bastore, 1) := dq0 kk_84 (by decide +kernel)
theorem dX12_init_870 : decode cX12_init 870 = .ok (.dup, 1) := dq0 kk_89 (by decide +kernel)
theorem dX12_init_871 : decode cX12_init 871 = .ok (.sipush 140, 3) := dqT kk_17 (by decide +kernel)
theorem dX12_init_874 : decode cX12_init 874 = .ok (.iconst 0, 1) := dq0 kk_3 (by decide +kernel)
theorem dX12_init_875 : decode cX12_init 875 = .ok (.bastore, 1) := dq0 kk_84 (by decide +kernel)
theorem dX12_init_876 : decode cX12_init 876 = .ok (.dup, 1) := dq0 kk_89 (by decide +kernel)
theorem dX12_init_877 : decode cX12_init 877 = .ok (.sipush 141, 3) := dqT kk_17 (by decide +kernel)
theorem dX12_init_880 : decode cX12_init 880 = .ok (.bipush 97, 2) := dqS kk_16 (by decide +kernel)
theorem dX12_init_882 : decode cX12_init 882 = .ok (.bastore, 1) := dq0 kk_84 (by decide +kernel)
theorem dX12_init_883 : decode cX12_init 883 = .ok (.dup, 1) := dq0 kk_89 (by decide +kernel)
theorem dX12_init_884 : decode cX12_init 884 = .ok (.sipush 142, 3) := dqT kk_17 (by decide +kernel)
theorem dX12_init_887 : decode cX12_init 887 = .ok (.bipush 102, 2) := dqS kk_16 (by decide +kernel)
theorem dX12_init_889 : decode cX12_init 889 = .ok (.bastore, 1) := dq0 kk_84 (by decide +kernel)
theorem dX12_init_890 : decode cX12_init 890 = .ok (.dup, 1) := dq0 kk_89 (by decide +kernel)
theorem dX12_init_891 : decode cX12_init 891 = .ok (.sipush 143, 3) := dqT kk_17 (by decide +kernel)
theorem dX12_init_894 : decode cX12_init 894 = .ok (.bipush 116, 2) := dqS kk_16 (by decide +kernel)
theorem dX12_init_896 : decode cX12_init 896 = .ok (.bastore, 1) := dq0 kk_84 (by decide +kernel)
theorem dX12_init_897 : decode cX12_init 897 = .ok (.dup, 1) := dq0 kk_89 (by decide +kernel)
theorem dX12_init_898 : decode cX12_init 898 = .ok (.sipush 144, 3) := dqT kk_17 (by decide +kernel)
theorem dX12_init_901 : decode cX12_init 901 = .ok (.bipush 101, 2) := dqS kk_16 (by decide +kernel)
theorem dX12_init_903 : decode cX12_init 903 = .ok (.bastore, 1) := dq0 kk_84 (by decide +kernel)
theorem dX12_init_904 : decode cX12_init 904 = .ok (.dup, 1) := dq0 kk_89 (by decide +kernel)
theorem dX12_init_905 : decode cX12_init 905 = .ok (.sipush 145, 3) := dqT kk_17 (by decide +kernel)
theorem dX12_init_908 : decode cX12_init 908 = .ok (.bipush 114, 2) := dqS kk_16 (by decide +kernel)
theorem dX12_init_910 : decode cX12_init 910 = .ok (.bastore, 1) := dq0 kk_84 (by decide +kernel)
theorem dX12_init_911 : decode cX12_init 911 = .ok (.dup, 1) := dq0 kk_89 (by decide +kernel)
theorem dX12_init_912 : decode cX12_init 912 = .ok (.sipush 146, 3) := dqT kk_17 (by decide +kernel)
theorem dX12_init_915 : decode cX12_init 915 = .ok (.iconst 0, 1) := dq0 kk_3 (by decide +kernel)
theorem dX12_init_916 : decode cX12_init 916 = .ok (.bastore, 1) := dq0 kk_84 (by decide +kernel)
theorem dX12_init_917 : decode cX12_init 917 = .ok (.putfield 29, 3) := dqV kk_181 (by decide +kernel)
theorem dX12_init_920 : decode cX12_init 920 = .ok (.aload_n 0, 1) := dq0 kk_42 (by decide +kernel)
theorem dX12_init_921 : decode cX12_init 921 = .ok (.bipush 8, 2) := dqS kk_16 (by decide +kernel)
theorem dX12_init_923 : decode cX12_init 923 = .ok (.newarray .int, 2) := by decide +kernel
theorem dX12_init_925 : decode cX12_init 925 = .ok (.putfield 33, 3) := dqV kk_181 (by decide +kernel)
theorem dX12_init_928 : decode cX12_init 928 = .ok (.aload_n 0, 1) := dq0 kk_42 (by decide +kernel)
theorem dX12_init_929 : decode cX12_init 929 = .ok (.bipush 64, 2) := dqS kk_16 (by decide +kernel)
theorem dX12_init_931 : decode cX12_init 931 = .ok (.newarray .int, 2) := by decide +kernel
theorem dX12_init_933 : decode cX12_init 933 = .ok (.putfield 36, 3) := dqV kk_181 (by decide +kernel)
theorem dX12_init_936 : decode cX12_init 936 = .ok (.aload_n 0, 1) := dq0 kk_42 (by decide +kernel)
theorem dX12_init_937 : decode cX12_init 937 = .ok (.sipush 336, 3) := dqT kk_17 (by decide +kernel)
theorem dX12_init_940 : decode cX12_init 940 = .ok (.newarray .int, 2) := by decide +kernel
theorem dX12_init_942 : decode cX12_init 942 = .ok (.putfield 39, 3) := dqV kk_181 (by decide +kernel)
theorem dX12_init_945 : decode cX12_init 945 = .ok (.aload_n 0, 1) := dq0 kk_42 (by decide +kernel)
theorem dX12_init_946 : decode cX12_init 946 = .ok (.sipush 260, 3) := dqT kk_17 (by decide +kernel)
theorem dX12_init_949 : decode cX12_init 949 = .ok (.newarray .int, 2) := by decide +kernel
theorem dX12_init_951 : decode cX12_init 951 = .ok (.putfield 42, 3) := dqV kk_181 (by decide +kernel)
theorem dX12_init_954 : decode cX12_init 954 = .ok (.aload_n 0, 1) := dq0 kk_42 (by decide +kernel)
theorem dX12_init_955 : decode cX12_init 955 = .ok (.bipush 12, 2) := dqS kk_16 (by decide +kernel)
theorem dX12_init_957 : decode cX12_init 957 = .ok (.newarray .int, 2) := by decide +kernel
theorem dX12_init_959 : decode cX12_init 959 = .ok (.putfield 45, 3) := dqV kk_181 (by decide +kernel)
theorem dX12_init_962 : decode cX12_init 962 = .ok (.aload_n 0, 1) := dq0 kk_42 (by decide +kernel)
theorem dX12_init_963 : decode cX12_init 963 = .ok (.sipush 8640, 3) := dqT kk_17 (by decide +kernel)
theorem dX12_init_966 : decode cX12_init 966 = .ok (.newarray .int, 2) := by decide +kernel
theorem dX12_init_968 : decode cX12_init 968 = .ok (.putfield 48, 3) := dqV kk_181 (by decide +kernel)
theorem dX12_init_971 : decode cX12_init 971 = .ok (.return_, 1) := dq0 kk_177 (by decide +kernel)
set_option maxRecDepth 8000 in
theorem n_X12_init_57 {l : Launch} {D : va_G} {B : Nat} {cy : Nat → ClassId} {E : Nat → va_E} (h0 : E 146 = .inr (12, [.int 0, .null, .null, .int 0, .null, .int 0, .int 0, .null, .int 0, .int 0, .null, .int 0, .null, .int 0, .int 0, .int 0, .int 0, .null, .null, .null, .int 0, .null, .int 0, .null, .null, .int 0, .int 0])) : Cn l D B cy yX12_init cX12_init 1 1 12 12 9915 [.ref (B + 146)] 147 E 159 (va_up (va_up (va_up (va_up (va_up (va_up (va_up (va_up (va_up (va_up (va_up (va_up (va_up (va_up (va_up (va_up (va_up (va_up (va_up (va_up (va_up (va_up (va_up (va_up E 147 (.inl (cy 2, 28, .inl (fun _ => 0)))) 146 (.inr (12, [.int 0, .ref (B + 147), .null, .int 0, .null, .int 0, .int 0, .null, .int 0, .int 0, .null, .int 0, .null, .int 0, .int 0, .int 0, .int 0, .null, .null, .null, .int 0, .null, .int 0, .null, .null, .int 0, .int 0]))) 148 (.inl (cy 2, 28, .inl (fun _ => 0)))) 146 (.inr (12, [.int 0, .ref (B + 147), .ref (B + 148), .int 0, .null, .int 0, .int 0, .null, .int 0, .int 0, .null, .int 0, .null, .int 0, .int 0, .int 0, .int 0, .null, .null, .null, .int 0, .null, .int 0, .null, .null, .int 0, .int 0]))) 149 (.inl (cy 2, 64, .inl (fun _ => 0)))) 146 (.inr (12, [.int 0, .ref (B + 147), .ref (B + 148), .int 0, .ref (B + 149), .int 0, .int 0, .null, .int 0, .int 0, .null, .int 0, .null, .int 0, .int 0, .int 0, .int 0, .null, .null, .null, .int 0, .null, .int 0, .null, .null, .int 0, .int 0]))) 150 (.inl (cy 2, 300, .inl (fun _ => 0)))) 146 (.inr (12, [.int 0, .ref (B + 147), .ref (B + 148), .int 0, .ref (B + 149), .int 0, .int 0, .ref (B + 150), .int 0, .int 0, .null, .int 0, .null, .int 0, .int 0, .int 0, .int 0, .null, .null, .null, .int 0, .null, .int 0, .null, .null, .int 0, .int 0]))) 151 (.inl (cy 2, 28, .inl (fun _ => 0)))) 146 (.inr (12, [.int 0, .ref (B + 147), .ref (B + 148), .int 0, .ref (B + 149), .int 0, .int 0, .ref (B + 150), .int 0, .int 0, .ref (B + 151), .int 0, .null, .int 0, .int 0, .int 0, .int 0, .null, .null, .null, .int 0, .null, .int 0, .null, .null, .int 0, .int 0]))) 152 (.inl (cy 0, 147, .inl (upd (upd (upd (upd (upd (upd (upd (upd (upd (upd (upd (upd (upd (upd (upd (upd (upd (upd (upd (upd (upd (upd (upd (upd (upd (upd (upd (upd (upd (upd (upd (upd (upd (upd (upd (upd (upd (upd (upd (upd (upd (upd (upd (upd (upd (upd (upd (upd (upd (upd (upd (upd (upd (upd (upd (upd (upd (upd (upd (upd (upd (upd (upd (upd (upd (upd (upd (upd (upd (upd (upd (upd (upd (upd (upd (upd (upd (upd (upd (upd (upd (upd (upd (upd (upd (upd (upd (upd (upd (upd (upd (upd (upd (upd (upd (upd (upd (upd (upd (upd (upd (upd (upd (upd (upd (upd (upd (upd (upd (upd (upd (upd (upd (upd (upd (upd (upd (upd (upd (upd (upd (upd (upd (upd (upd (upd (upd (upd (upd (upd (upd (upd (upd (upd (upd (upd (upd (upd (upd (upd (upd (upd (upd (upd (upd (upd (upd (fun _ => 0) 0 97) 1 103) 2 97) 3 105) 4 110) 5 0) 6 108) 7 105) 8 110) 9 107) 10 0) 11 115) 12 112) 13 114) 14 101) 15 97) 16 100) 17 0) 18 115) 19 104) 20 105) 21 102) 22 116) 23 0) 24 99) 25 117) 26 116) 27 0) 28 100) 29 111) 30 99) 31 107) 32 0) 33 100) 34 114) 35 111) 36 112) 37 0) 38 102) 39 117) 40 115) 41 101) 42 0) 43 116) 44 117) 45 114) 46 110) 47 0) 48 102) 49 108) 50 97) 51 116) 52 0) 53 102) 54 105) 55 108) 56 108) 57 0) 58 108) 59 111) 60 119) 61 0) 62 109) 63 105) 64 100) 65 0) 66 104) 67 105) 68 103) 69 104) 70 0) 71 97) 72 110) 73 121) 74 0) 75 114) 76 105) 77 103) 78 104) 79 116) 80 0) 81 108) 82 101) 83 102) 84 116) 85 0) 86 102) 87 105) 88 114) 89 115) 90 116) 91 0) 92 108) 93 97) 94 115) 95 116) 96 0) 97 116) 98 111) 99 0) 100 105) 101 102) 102 0) 103 110) 104 111) 105 116) 106 0) 107 98) 108 101) 109 103) 110 105) 111 110) 112 0) 113 101) 114 110) 115 100) 116 0) 117 104) 118 101) 119 97) 120 118) 121 121) 122 0) 123 109) 124 97) 125 110) 126 121) 127 0) 128 102) 129 108) 130 111) 131 97) 132 116) 133 0) 134 98) 135 101) 136 102) 137 111) 138 114) 139 101) 140 0) 141 97) 142 102) 143 116) 144 101) 145 114) 146 0)))) 146 (.inr (12, [.int 0, .ref (B + 147), .ref (B + 148), .int 0, .ref (B + 149), .int 0, .int 0, .ref (B + 150), .int 0, .int 0, .ref (B + 151), .int 0, .ref (B + 152), .int 0, .int 0, .int 0, .int 0, .null, .null, .null, .int 0, .null, .int 0, .null, .null, .int 0, .int 0]))) 153 (.inl (cy 2, 8, .inl (fun _ => 0)))) 146 (.inr (12, [.int 0, .ref (B + 147), .ref (B + 148), .int 0, .ref (B + 149), .int 0, .int 0, .ref (B + 150), .int 0, .int 0, .ref (B + 151), .int 0, .ref (B + 152), .int 0, .int 0, .int 0, .int 0, .ref (B + 153), .null, .null, .int 0, .null, .int 0, .null, .null, .int 0, .int 0]))) 154 (.inl (cy 2, 64, .inl (fun _ => 0)))) 146 (.inr (12, [.int 0, .ref (B + 147), .ref (B + 148), .int 0, .ref (B + 149), .int 0, .int 0, .ref (B + 150), .int 0, .int 0, .ref (B + 151), .int 0, .ref (B + 152), .int 0, .int 0, .int 0, .int 0, .ref (B + 153), .ref (B + 154), .null, .int 0, .null, .int 0, .null, .null, .int 0, .int 0]))) 155 (.inl (cy 2, 336, .inl (fun _ => 0)))) 146 (.inr (12, [.int 0, .ref (B + 147), .ref (B + 148), .int 0, .ref (B + 149), .int 0, .int 0, .ref (B + 150), .int 0, .int 0, .ref (B + 151), .int 0, .ref (B + 152), .int 0, .int 0, .int 0, .int 0, .ref (B + 153), .ref (B + 154), .ref (B + 155), .int 0, .null, .int 0, .null, .null, .int 0, .int 0]))) 156 (.inl (cy 2, 260, .inl (fun _ => 0)))) 146 (.inr (12, [.int 0, .ref (B + 147), .ref (B + 148), .int 0, .ref (B + 149), .int 0, .int 0, .ref (B + 150), .int 0, .int 0, .ref (B + 151), .int 0, .ref (B + 152), .int 0, .int 0, .int 0, .int 0, .ref (B + 153), .ref (B + 154), .ref (B + 155), .int 0, .ref (B + 156), .int 0, .null, .null, .int 0, .int 0]))) 157 (.inl (cy 2, 12, .inl (fun _ => 0)))) 146 (.inr (12, [.int 0, .ref (B + 147), .ref (B + 148), .int 0, .ref (B + 149), .int 0, .int 0, .ref (B + 150), .int 0, .int 0, .ref (B + 151), .int 0, .ref (B + 152), .int 0, .int 0, .int 0, .int 0, .ref (B + 153), .ref (B + 154), .ref (B + 155), .int 0, .ref (B + 156), .int 0, .ref (B + 157), .null, .int 0, .int 0]))) 158 (.inl (cy 2, 8640, .inl (fun _ => 0)))) 146 (.inr (12, [.int 0, .ref (B + 147), .ref (B + 148), .int 0, .ref (B + 149), .int 0, .int 0, .ref (B + 150), .int 0, .int 0, .ref (B + 151), .int 0, .ref (B + 152), .int 0, .int 0, .int 0, .int 0, .ref (B + 153), .ref (B + 154), .ref (B + 155), .int 0, .ref (B + 156), .int 0, .ref (B + 157), .ref (B + 158), .int 0, .int 0]))) := by
  refine n_start (by decide) (Nat.le_of_ble_eq_true rfl) rfl ?_
  intro p e s m below meth c ls F hr hlocks hin w hl
  have F : CallFix p m c cX12_init 1 s _ TB RX12 := F
  have hx := F.1
  have hb := F.2.1
  have hl : lv_has ls 1 [(0, .ref (B + 146))] := hl
  refine lv_aload_n hx hb dX12_init_0 rfl (lv_at hl 0 rfl) ?_
  refine n_obj F hl.1 tb_784 tb_723 tk_obj dX12_init_1 (Nat.le_of_ble_eq_true rfl) (Nat.le_of_ble_eq_true rfl) ?_
  refine lv_aload_n hx hb dX12_init_4 rfl (lv_at hl 0 rfl) ?_
  refine lv_bipush (v := 28) hx hb dX12_init_5 (by decide) ?_
  refine n_newa F w (atype := .int) (ty := .int) (t := 2) (N := 28) (cA := cy 2) (a0 := (28, .inl (fun _ => 0))) tb_741 rfl (fun _ h => h) rfl (fun _ => rfl) (by decide) (by decide) (Nat.le_of_ble_eq_true rfl) (Nat.le_of_ble_eq_true rfl) (Nat.le_of_ble_eq_true rfl) (c1 := 1) (s1 := 28) (n1 := 148) rfl rfl rfl dX12_init_7 (fun H w => ?_)
  refine n_putF F w (a := 146) (C := RX12) (T := TX12) (N := 27) (ci := 12) (k := 1) (x := .ref (B + 147)) (ty := .array .int) (fs1 := [.int 0, .ref (B + 147), .null, .int 0, .null, .int 0, .int 0, .null, .int 0, .int 0, .null, .int 0, .null, .int 0, .int 0, .int 0, .int 0, .null, .null, .null, .int 0, .null, .int 0, .null, .null, .int 0, .int 0]) tyX12 tyX12_ok nmX12 (by decide) ((up_ne (by decide)).trans h0) rfl rfl inT12 (by decide) rfl tb_580 rfl hin rfl (by decide +kernel) rfl rfl (Nat.le_of_ble_eq_true rfl) dX12_init_9 (fun H locs w => ?_)
  refine lv_aload_n hx hb dX12_init_12 rfl (lv_at hl 0 rfl) ?_
  refine lv_bipush (v := 28) hx hb dX12_init_13 (by decide) ?_
  refine n_newa F w (atype := .int) (ty := .int) (t := 2) (N := 28) (cA := cy 2) (a0 := (28, .inl (fun _ => 0))) tb_741 rfl (fun _ h => h) rfl (fun _ => rfl) (by decide) (by decide) (Nat.le_of_ble_eq_true rfl) (Nat.le_of_ble_eq_true rfl) (Nat.le_of_ble_eq_true rfl) (c1 := 2) (s1 := 56) (n1 := 149) rfl rfl rfl dX12_init_15 (fun H w => ?_)
  refine n_putF F w (a := 146) (C := RX12) (T := TX12) (N := 27) (ci := 12) (k := 2) (x := .ref (B + 148)) (ty := .array .int) (fs1 := [.int 0, .ref (B + 147), .ref (B + 148), .int 0, .null, .int 0, .int 0, .null, .int 0, .int 0, .null, .int 0, .null, .int 0, .int 0, .int 0, .int 0, .null, .null, .null, .int 0, .null, .int 0, .null, .null, .int 0, .int 0]) tyX12 tyX12_ok nmX12 (by decide) ((up_ne (by decide)).trans up_at) rfl rfl inT12 (by decide) rfl tb_45 rfl hin rfl (by decide +kernel) rfl rfl (Nat.le_of_ble_eq_true rfl) dX12_init_17 (fun H locs w => ?_)
  refine lv_aload_n hx hb dX12_init_20 rfl (lv_at hl 0 rfl) ?_
  refine lv_bipush (v := 64) hx hb dX12_init_21 (by decide) ?_
  refine n_newa F w (atype := .int) (ty := .int) (t := 2) (N := 64) (cA := cy 2) (a0 := (64, .inl (fun _ => 0))) tb_741 rfl (fun _ h => h) rfl (fun _ => rfl) (by decide) (by decide) (Nat.le_of_ble_eq_true rfl) (Nat.le_of_ble_eq_true rfl) (Nat.le_of_ble_eq_true rfl) (c1 := 3) (s1 := 120) (n1 := 150) rfl rfl rfl dX12_init_23 (fun H w => ?_)
  refine n_putF F w (a := 146) (C := RX12) (T := TX12) (N := 27) (ci := 12) (k := 4) (x := .ref (B + 149)) (ty := .array .int) (fs1 := [.int 0, .ref (B + 147), .ref (B + 148), .int 0, .ref (B + 149), .int 0, .int 0, .null, .int 0, .int 0, .null, .int 0, .null, .int 0, .int 0, .int 0, .int 0, .null, .null, .null, .int 0, .null, .int 0, .null, .null, .int 0, .int 0]) tyX12 tyX12_ok nmX12 (by decide) ((up_ne (by decide)).trans up_at) rfl rfl inT12 (by decide) rfl tb_532 rfl hin rfl (by decide +kernel) rfl rfl (Nat.le_of_ble_eq_true rfl) dX12_init_25 (fun H locs w => ?_)
  refine lv_aload_n hx hb dX12_init_28 rfl (lv_at hl 0 rfl) ?_
  refine lv_sipush (v := 300) hx hb dX12_init_29 (by decide) ?_
  refine n_newa F w (atype := .int) (ty := .int) (t := 2) (N := 300) (cA := cy 2) (a0 := (300, .inl (fun _ => 0))) tb_741 rfl (fun _ h => h) rfl (fun _ => rfl) (by decide) (by decide) (Nat.le_of_ble_eq_true rfl) (Nat.le_of_ble_eq_true rfl) (Nat.le_of_ble_eq_true rfl) (c1 := 4) (s1 := 420) (n1 := 151) rfl rfl rfl dX12_init_32 (fun H w => ?_)
  refine n_putF F w (a := 146) (C := RX12) (T := TX12) (N := 27) (ci := 12) (k := 7) (x := .ref (B + 150)) (ty := .array .int) (fs1 := [.int 0, .ref (B + 147), .ref (B + 148), .int 0, .ref (B + 149), .int 0, .int 0, .ref (B + 150), .int 0, .int 0, .null, .int 0, .null, .int 0, .int 0, .int 0, .int 0, .null, .null, .null, .int 0, .null, .int 0, .null, .null, .int 0, .int 0]) tyX12 tyX12_ok nmX12 (by decide) ((up_ne (by decide)).trans up_at) rfl rfl inT12 (by decide) rfl tb_588 rfl hin rfl (by decide +kernel) rfl rfl (Nat.le_of_ble_eq_true rfl) dX12_init_34 (fun H locs w => ?_)
  refine lv_aload_n hx hb dX12_init_37 rfl (lv_at hl 0 rfl) ?_
  refine lv_bipush (v := 28) hx hb dX12_init_38 (by decide) ?_
  refine n_newa F w (atype := .int) (ty := .int) (t := 2) (N := 28) (cA := cy 2) (a0 := (28, .inl (fun _ => 0))) tb_741 rfl (fun _ h => h) rfl (fun _ => rfl) (by decide) (by decide) (Nat.le_of_ble_eq_true rfl) (Nat.le_of_ble_eq_true rfl) (Nat.le_of_ble_eq_true rfl) (c1 := 5) (s1 := 448) (n1 := 152) rfl rfl rfl dX12_init_40 (fun H w => ?_)
  refine n_putF F w (a := 146) (C := RX12) (T := TX12) (N := 27) (ci := 12) (k := 10) (x := .ref (B + 151)) (ty := .array .int) (fs1 := [.int 0, .ref (B + 147), .ref (B + 148), .int 0, .ref (B + 149), .int 0, .int 0, .ref (B + 150), .int 0, .int 0, .ref (B + 151), .int 0, .null, .int 0, .int 0, .int 0, .int 0, .null, .null, .null, .int 0, .null, .int 0, .null, .null, .int 0, .int 0]) tyX12 tyX12_ok nmX12 (by decide) ((up_ne (by decide)).trans up_at) rfl rfl inT12 (by decide) rfl tb_595 rfl hin rfl (by decide +kernel) rfl rfl (Nat.le_of_ble_eq_true rfl) dX12_init_42 (fun H locs w => ?_)
  refine lv_aload_n hx hb dX12_init_45 rfl (lv_at hl 0 rfl) ?_
  refine lv_sipush (v := 147) hx hb dX12_init_46 (by decide) ?_
  refine n_newa F w (atype := .byte) (ty := .byte) (t := 0) (N := 147) (cA := cy 0) (a0 := (147, .inl (fun _ => 0))) tb_728 rfl (fun _ h => h) rfl (fun _ => rfl) (by decide) (by decide) (Nat.le_of_ble_eq_true rfl) (Nat.le_of_ble_eq_true rfl) (Nat.le_of_ble_eq_true rfl) (c1 := 6) (s1 := 595) (n1 := 153) rfl rfl rfl dX12_init_49 (fun H w => ?_)
  refine lv_dup hx hb dX12_init_51 rfl ?_
  refine lv_iconst (v := 0) hx hb dX12_init_52 (by decide) ?_
  refine lv_bipush (v := 97) hx hb dX12_init_53 (by decide) ?_
  refine n_bast F w (j := 0) (y := 97) (by decide) rfl ⟨by decide, by decide⟩ (by decide) (by decide) dX12_init_55 (fun H locs w => ?_)
  refine lv_dup hx hb dX12_init_56 rfl ?_
  refine lv_iconst (v := 1) hx hb dX12_init_57 (by decide) ?_
  refine lv_bipush (v := 103) hx hb dX12_init_58 (by decide) ?_
  refine n_bast F w (j := 1) (y := 103) (by decide) rfl ⟨by decide, by decide⟩ (by decide) (by decide) dX12_init_60 (fun H locs w => ?_)
  refine lv_dup hx hb dX12_init_61 rfl ?_
  refine lv_iconst (v := 2) hx hb dX12_init_62 (by decide) ?_
  refine lv_bipush (v := 97) hx hb dX12_init_63 (by decide) ?_
  refine n_bast F w (j := 2) (y := 97) (by decide) rfl ⟨by decide, by decide⟩ (by decide) (by decide) dX12_init_65 (fun H locs w => ?_)
  refine lv_dup hx hb dX12_init_66 rfl ?_
  refine lv_iconst (v := 3) hx hb dX12_init_67 (by decide) ?_
  refine lv_bipush (v := 105) hx hb dX12_init_68 (by decide) ?_
  refine n_bast F w (j := 3) (y := 105) (by decide) rfl ⟨by decide, by decide⟩ (by decide) (by decide) dX12_init_70 (fun H locs w => ?_)
  refine lv_dup hx hb dX12_init_71 rfl ?_
  refine lv_iconst (v := 4) hx hb dX12_init_72 (by decide) ?_
  refine lv_bipush (v := 110) hx hb dX12_init_73 (by decide) ?_
  refine n_bast F w (j := 4) (y := 110) (by decide) rfl ⟨by decide, by decide⟩ (by decide) (by decide) dX12_init_75 (fun H locs w => ?_)
  refine lv_dup hx hb dX12_init_76 rfl ?_
  refine lv_iconst (v := 5) hx hb dX12_init_77 (by decide) ?_
  refine lv_iconst (v := 0) hx hb dX12_init_78 (by decide) ?_
  refine n_bast F w (j := 5) (y := 0) (by decide) rfl ⟨by decide, by decide⟩ (by decide) (by decide) dX12_init_79 (fun H locs w => ?_)
  refine lv_dup hx hb dX12_init_80 rfl ?_
  refine lv_bipush (v := 6) hx hb dX12_init_81 (by decide) ?_
  refine lv_bipush (v := 108) hx hb dX12_init_83 (by decide) ?_
  refine n_bast F w (j := 6) (y := 108) (by decide) rfl ⟨by decide, by decide⟩ (by decide) (by decide) dX12_init_85 (fun H locs w => ?_)
  refine lv_dup hx hb dX12_init_86 rfl ?_
  refine lv_bipush (v := 7) hx hb dX12_init_87 (by decide) ?_
  refine lv_bipush (v := 105) hx hb dX12_init_89 (by decide) ?_
  refine n_bast F w (j := 7) (y := 105) (by decide) rfl ⟨by decide, by decide⟩ (by decide) (by decide) dX12_init_91 (fun H locs w => ?_)
  refine lv_dup hx hb dX12_init_92 rfl ?_
  refine lv_bipush (v := 8) hx hb dX12_init_93 (by decide) ?_
  refine lv_bipush (v := 110) hx hb dX12_init_95 (by decide) ?_
  refine n_bast F w (j := 8) (y := 110) (by decide) rfl ⟨by decide, by decide⟩ (by decide) (by decide) dX12_init_97 (fun H locs w => ?_)
  refine lv_dup hx hb dX12_init_98 rfl ?_
  refine lv_bipush (v := 9) hx hb dX12_init_99 (by decide) ?_
  refine lv_bipush (v := 107) hx hb dX12_init_101 (by decide) ?_
  refine n_bast F w (j := 9) (y := 107) (by decide) rfl ⟨by decide, by decide⟩ (by decide) (by decide) dX12_init_103 (fun H locs w => ?_)
  refine lv_dup hx hb dX12_init_104 rfl ?_
  refine lv_bipush (v := 10) hx hb dX12_init_105 (by decide) ?_
  refine lv_iconst (v := 0) hx hb dX12_init_107 (by decide) ?_
  refine n_bast F w (j := 10) (y := 0) (by decide) rfl ⟨by decide, by decide⟩ (by decide) (by decide) dX12_init_108 (fun H locs w => ?_)
  refine lv_dup hx hb dX12_init_109 rfl ?_
  refine lv_bipush (v := 11) hx hb dX12_init_110 (by decide) ?_
  refine lv_bipush (v := 115) hx hb dX12_init_112 (by decide) ?_
  refine n_bast F w (j := 11) (y := 115) (by decide) rfl ⟨by decide, by decide⟩ (by decide) (by decide) dX12_init_114 (fun H locs w => ?_)
  refine lv_dup hx hb dX12_init_115 rfl ?_
  refine lv_bipush (v := 12) hx hb dX12_init_116 (by decide) ?_
  refine lv_bipush (v := 112) hx hb dX12_init_118 (by decide) ?_
  refine n_bast F w (j := 12) (y := 112) (by decide) rfl ⟨by decide, by decide⟩ (by decide) (by decide) dX12_init_120 (fun H locs w => ?_)
  refine lv_dup hx hb dX12_init_121 rfl ?_
  refine lv_bipush (v := 13) hx hb dX12_init_122 (by decide) ?_
  refine lv_bipush (v := 114) hx hb dX12_init_124 (by decide) ?_
  refine n_bast F w (j := 13) (y := 114) (by decide) rfl ⟨by decide, by decide⟩ (by decide) (by decide) dX12_init_126 (fun H locs w => ?_)
  refine lv_dup hx hb dX12_init_127 rfl ?_
  refine lv_bipush (v := 14) hx hb dX12_init_128 (by decide) ?_
  refine lv_bipush (v := 101) hx hb dX12_init_130 (by decide) ?_
  refine n_bast F w (j := 14) (y := 101) (by decide) rfl ⟨by decide, by decide⟩ (by decide) (by decide) dX12_init_132 (fun H locs w => ?_)
  refine lv_dup hx hb dX12_init_133 rfl ?_
  refine lv_bipush (v := 15) hx hb dX12_init_134 (by decide) ?_
  refine lv_bipush (v := 97) hx hb dX12_init_136 (by decide) ?_
  refine n_bast F w (j := 15) (y := 97) (by decide) rfl ⟨by decide, by decide⟩ (by decide) (by decide) dX12_init_138 (fun H locs w => ?_)
  refine lv_dup hx hb dX12_init_139 rfl ?_
  refine lv_bipush (v := 16) hx hb dX12_init_140 (by decide) ?_
  refine lv_bipush (v := 100) hx hb dX12_init_142 (by decide) ?_
  refine n_bast F w (j := 16) (y := 100) (by decide) rfl ⟨by decide, by decide⟩ (by decide) (by decide) dX12_init_144 (fun H locs w => ?_)
  refine lv_dup hx hb dX12_init_145 rfl ?_
  refine lv_bipush (v := 17) hx hb dX12_init_146 (by decide) ?_
  refine lv_iconst (v := 0) hx hb dX12_init_148 (by decide) ?_
  refine n_bast F w (j := 17) (y := 0) (by decide) rfl ⟨by decide, by decide⟩ (by decide) (by decide) dX12_init_149 (fun H locs w => ?_)
  refine lv_dup hx hb dX12_init_150 rfl ?_
  refine lv_bipush (v := 18) hx hb dX12_init_151 (by decide) ?_
  refine lv_bipush (v := 115) hx hb dX12_init_153 (by decide) ?_
  refine n_bast F w (j := 18) (y := 115) (by decide) rfl ⟨by decide, by decide⟩ (by decide) (by decide) dX12_init_155 (fun H locs w => ?_)
  refine lv_dup hx hb dX12_init_156 rfl ?_
  refine lv_bipush (v := 19) hx hb dX12_init_157 (by decide) ?_
  refine lv_bipush (v := 104) hx hb dX12_init_159 (by decide) ?_
  refine n_bast F w (j := 19) (y := 104) (by decide) rfl ⟨by decide, by decide⟩ (by decide) (by decide) dX12_init_161 (fun H locs w => ?_)
  refine lv_dup hx hb dX12_init_162 rfl ?_
  refine lv_bipush (v := 20) hx hb dX12_init_163 (by decide) ?_
  refine lv_bipush (v := 105) hx hb dX12_init_165 (by decide) ?_
  refine n_bast F w (j := 20) (y := 105) (by decide) rfl ⟨by decide, by decide⟩ (by decide) (by decide) dX12_init_167 (fun H locs w => ?_)
  refine lv_dup hx hb dX12_init_168 rfl ?_
  refine lv_bipush (v := 21) hx hb dX12_init_169 (by decide) ?_
  refine lv_bipush (v := 102) hx hb dX12_init_171 (by decide) ?_
  refine n_bast F w (j := 21) (y := 102) (by decide) rfl ⟨by decide, by decide⟩ (by decide) (by decide) dX12_init_173 (fun H locs w => ?_)
  refine lv_dup hx hb dX12_init_174 rfl ?_
  refine lv_bipush (v := 22) hx hb dX12_init_175 (by decide) ?_
  refine lv_bipush (v := 116) hx hb dX12_init_177 (by decide) ?_
  refine n_bast F w (j := 22) (y := 116) (by decide) rfl ⟨by decide, by decide⟩ (by decide) (by decide) dX12_init_179 (fun H locs w => ?_)
  refine lv_dup hx hb dX12_init_180 rfl ?_
  refine lv_bipush (v := 23) hx hb dX12_init_181 (by decide) ?_
  refine lv_iconst (v := 0) hx hb dX12_init_183 (by decide) ?_
  refine n_bast F w (j := 23) (y := 0) (by decide) rfl ⟨by decide, by decide⟩ (by decide) (by decide) dX12_init_184 (fun H locs w => ?_)
  refine lv_dup hx hb dX12_init_185 rfl ?_
  refine lv_bipush (v := 24) hx hb dX12_init_186 (by decide) ?_
  refine lv_bipush (v := 99) hx hb dX12_init_188 (by decide) ?_
  refine n_bast F w (j := 24) (y := 99) (by decide) rfl ⟨by decide, by decide⟩ (by decide) (by decide) dX12_init_190 (fun H locs w => ?_)
  refine lv_dup hx hb dX12_init_191 rfl ?_
  refine lv_bipush (v := 25) hx hb dX12_init_192 (by decide) ?_
  refine lv_bipush (v := 117) hx hb dX12_init_194 (by decide) ?_
  refine n_bast F w (j := 25) (y := 117) (by decide) rfl ⟨by decide, by decide⟩ (by decide) (by decide) dX12_init_196 (fun H locs w => ?_)
  refine lv_dup hx hb dX12_init_197 rfl ?_
  refine lv_bipush (v := 26) hx hb dX12_init_198 (by decide) ?_
  refine lv_bipush (v := 116) hx hb dX12_init_200 (by decide) ?_
  refine n_bast F w (j := 26) (y := 116) (by decide) rfl ⟨by decide, by decide⟩ (by decide) (by decide) dX12_init_202 (fun H locs w => ?_)
  refine lv_dup hx hb dX12_init_203 rfl ?_
  refine lv_bipush (v := 27) hx hb dX12_init_204 (by decide) ?_
  refine lv_iconst (v := 0) hx hb dX12_init_206 (by decide) ?_
  refine n_bast F w (j := 27) (y := 0) (by decide) rfl ⟨by decide, by decide⟩ (by decide) (by decide) dX12_init_207 (fun H locs w => ?_)
  refine lv_dup hx hb dX12_init_208 rfl ?_
  refine lv_bipush (v := 28) hx hb dX12_init_209 (by decide) ?_
  refine lv_bipush (v := 100) hx hb dX12_init_211 (by decide) ?_
  refine n_bast F w (j := 28) (y := 100) (by decide) rfl ⟨by decide, by decide⟩ (by decide) (by decide) dX12_init_213 (fun H locs w => ?_)
  refine lv_dup hx hb dX12_init_214 rfl ?_
  refine lv_bipush (v := 29) hx hb dX12_init_215 (by decide) ?_
  refine lv_bipush (v := 111) hx hb dX12_init_217 (by decide) ?_
  refine n_bast F w (j := 29) (y := 111) (by decide) rfl ⟨by decide, by decide⟩ (by decide) (by decide) dX12_init_219 (fun H locs w => ?_)
  refine lv_dup hx hb dX12_init_220 rfl ?_
  refine lv_bipush (v := 30) hx hb dX12_init_221 (by decide) ?_
  refine lv_bipush (v := 99) hx hb dX12_init_223 (by decide) ?_
  refine n_bast F w (j := 30) (y := 99) (by decide) rfl ⟨by decide, by decide⟩ (by decide) (by decide) dX12_init_225 (fun H locs w => ?_)
  refine lv_dup hx hb dX12_init_226 rfl ?_
  refine lv_bipush (v := 31) hx hb dX12_init_227 (by decide) ?_
  refine lv_bipush (v := 107) hx hb dX12_init_229 (by decide) ?_
  refine n_bast F w (j := 31) (y := 107) (by decide) rfl ⟨by decide, by decide⟩ (by decide) (by decide) dX12_init_231 (fun H locs w => ?_)
  refine lv_dup hx hb dX12_init_232 rfl ?_
  refine lv_bipush (v := 32) hx hb dX12_init_233 (by decide) ?_
  refine lv_iconst (v := 0) hx hb dX12_init_235 (by decide) ?_
  refine n_bast F w (j := 32) (y := 0) (by decide) rfl ⟨by decide, by decide⟩ (by decide) (by decide) dX12_init_236 (fun H locs w => ?_)
  refine lv_dup hx hb dX12_init_237 rfl ?_
  refine lv_bipush (v := 33) hx hb dX12_init_238 (by decide) ?_
  refine lv_bipush (v := 100) hx hb dX12_init_240 (by decide) ?_
  refine n_bast F w (j := 33) (y := 100) (by decide) rfl ⟨by decide, by decide⟩ (by decide) (by decide) dX12_init_242 (fun H locs w => ?_)
  refine lv_dup hx hb dX12_init_243 rfl ?_
  refine lv_bipush (v := 34) hx hb dX12_init_244 (by decide) ?_
  refine lv_bipush (v := 114) hx hb dX12_init_246 (by decide) ?_
  refine n_bast F w (j := 34) (y := 114) (by decide) rfl ⟨by decide, by decide⟩ (by decide) (by decide) dX12_init_248 (fun H locs w => ?_)
  refine lv_dup hx hb dX12_init_249 rfl ?_
  refine lv_bipush (v := 35) hx hb dX12_init_250 (by decide) ?_
  refine lv_bipush (v := 111) hx hb dX12_init_252 (by decide) ?_
  refine n_bast F w (j := 35) (y := 111) (by decide) rfl ⟨by decide, by decide⟩ (by decide) (by decide) dX12_init_254 (fun H locs w => ?_)
  refine lv_dup hx hb dX12_init_255 rfl ?_
  refine lv_bipush (v := 36) hx hb dX12_init_256 (by decide) ?_
  refine lv_bipush (v := 112) hx hb dX12_init_258 (by decide) ?_
  refine n_bast F w (j := 36) (y := 112) (by decide) rfl ⟨by decide, by decide⟩ (by decide) (by decide) dX12_init_260 (fun H locs w => ?_)
  refine lv_dup hx hb dX12_init_261 rfl ?_
  refine lv_bipush (v := 37) hx hb dX12_init_262 (by decide) ?_
  refine lv_iconst (v := 0) hx hb dX12_init_264 (by decide) ?_
  refine n_bast F w (j := 37) (y := 0) (by decide) rfl ⟨by decide, by decide⟩ (by decide) (by decide) dX12_init_265 (fun H locs w => ?_)
  refine lv_dup hx hb dX12_init_266 rfl ?_
  refine lv_bipush (v := 38) hx hb dX12_init_267 (by decide) ?_
  refine lv_bipush (v := 102) hx hb dX12_init_269 (by decide) ?_
  refine n_bast F w (j := 38) (y := 102) (by decide) rfl ⟨by decide, by decide⟩ (by decide) (by decide) dX12_init_271 (fun H locs w => ?_)
  refine lv_dup hx hb dX12_init_272 rfl ?_
  refine lv_bipush (v := 39) hx hb dX12_init_273 (by decide) ?_
  refine lv_bipush (v := 117) hx hb dX12_init_275 (by decide) ?_
  refine n_bast F w (j := 39) (y := 117) (by decide) rfl ⟨by decide, by decide⟩ (by decide) (by decide) dX12_init_277 (fun H locs w => ?_)
  refine lv_dup hx hb dX12_init_278 rfl ?_
  refine lv_bipush (v := 40) hx hb dX12_init_279 (by decide) ?_
  refine lv_bipush (v := 115) hx hb dX12_init_281 (by decide) ?_
  refine n_bast F w (j := 40) (y := 115) (by decide) rfl ⟨by decide, by decide⟩ (by decide) (by decide) dX12_init_283 (fun H locs w => ?_)
  refine lv_dup hx hb dX12_init_284 rfl ?_
  refine lv_bipush (v := 41) hx hb dX12_init_285 (by decide) ?_
  refine lv_bipush (v := 101) hx hb dX12_init_287 (by decide) ?_
  refine n_bast F w (j := 41) (y := 101) (by decide) rfl ⟨by decide, by decide⟩ (by decide) (by decide) dX12_init_289 (fun H locs w => ?_)
  refine lv_dup hx hb dX12_init_290 rfl ?_
  refine lv_bipush (v := 42) hx hb dX12_init_291 (by decide) ?_
  refine lv_iconst (v := 0) hx hb dX12_init_293 (by decide) ?_
  refine n_bast F w (j := 42) (y := 0) (by decide) rfl ⟨by decide, by decide⟩ (by decide) (by decide) dX12_init_294 (fun H locs w => ?_)
  refine lv_dup hx hb dX12_init_295 rfl ?_
  refine lv_bipush (v := 43) hx hb dX12_init_296 (by decide) ?_
  refine lv_bipush (v := 116) hx hb dX12_init_298 (by decide) ?_
  refine n_bast F w (j := 43) (y := 116) (by decide) rfl ⟨by decide, by decide⟩ (by decide) (by decide) dX12_init_300 (fun H locs w => ?_)
  refine lv_dup hx hb dX12_init_301 rfl ?_
  refine lv_bipush (v := 44) hx hb dX12_init_302 (by decide) ?_
  refine lv_bipush (v := 117) hx hb dX12_init_304 (by decide) ?_
  refine n_bast F w (j := 44) (y := 117) (by decide) rfl ⟨by decide, by decide⟩ (by decide) (by decide) dX12_init_306 (fun H locs w => ?_)
  refine lv_dup hx hb dX12_init_307 rfl ?_
  refine lv_bipush (v := 45) hx hb dX12_init_308 (by decide) ?_
  refine lv_bipush (v := 114) hx hb dX12_init_310 (by decide) ?_
  refine n_bast F w (j := 45) (y := 114) (by decide) rfl ⟨by decide, by decide⟩ (by decide) (by decide) dX12_init_312 (fun H locs w => ?_)
  refine lv_dup hx hb dX12_init_313 rfl ?_
  refine lv_bipush (v := 46) hx hb dX12_init_314 (by decide) ?_
  refine lv_bipush (v := 110) hx hb dX12_init_316 (by decide) ?_
  refine n_bast F w (j := 46) (y := 110) (by decide) rfl ⟨by decide, by decide⟩ (by decide) (by decide) dX12_init_318 (fun H locs w => ?_)
  refine lv_dup hx hb dX12_init_319 rfl ?_
  refine lv_bipush (v := 47) hx hb dX12_init_320 (by decide) ?_
  refine lv_iconst (v := 0) hx hb dX12_init_322 (by decide) ?_
  refine n_bast F w (j := 47) (y := 0) (by decide) rfl ⟨by decide, by decide⟩ (by decide) (by decide) dX12_init_323 (fun H locs w => ?_)
  refine lv_dup hx hb dX12_init_324 rfl ?_
  refine lv_bipush (v := 48) hx hb dX12_init_325 (by decide) ?_
  refine lv_bipush (v := 102) hx hb dX12_init_327 (by decide) ?_
  refine n_bast F w (j := 48) (y := 102) (by decide) rfl ⟨by decide, by decide⟩ (by decide) (by decide) dX12_init_329 (fun H locs w => ?_)
  refine lv_dup hx hb dX12_init_330 rfl ?_
  refine lv_bipush (v := 49) hx hb dX12_init_331 (by decide) ?_
  refine lv_bipush (v := 108) hx hb dX12_init_333 (by decide) ?_
  refine n_bast F w (j := 49) (y := 108) (by decide) rfl ⟨by decide, by decide⟩ (by decide) (by decide) dX12_init_335 (fun H locs w => ?_)
  refine lv_dup hx hb dX12_init_336 rfl ?_
  refine lv_bipush (v := 50) hx hb dX12_init_337 (by decide) ?_
  refine lv_bipush (v := 97) hx hb dX12_init_339 (by decide) ?_
  refine n_bast F w (j := 50) (y := 97) (by decide) rfl ⟨by decide, by decide⟩ (by decide) (by decide) dX12_init_341 (fun H locs w => ?_)
  refine lv_dup hx hb dX12_init_342 rfl ?_
  refine lv_bipush (v := 51) hx hb dX12_init_343 (by decide) ?_
  refine lv_bipush (v := 116) hx hb dX12_init_345 (by decide) ?_
  refine n_bast F w (j := 51) (y := 116) (by decide) rfl ⟨by decide, by decide⟩ (by decide) (by decide) dX12_init_347 (fun H locs w => ?_)
  refine lv_dup hx hb dX12_init_348 rfl ?_
  refine lv_bipush (v := 52) hx hb dX12_init_349 (by decide) ?_
  refine lv_iconst (v := 0) hx hb dX12_init_351 (by decide) ?_
  refine n_bast F w (j := 52) (y := 0) (by decide) rfl ⟨by decide, by decide⟩ (by decide) (by decide) dX12_init_352 (fun H locs w => ?_)
  refine lv_dup hx hb dX12_init_353 rfl ?_
  refine lv_bipush (v := 53) hx hb dX12_init_354 (by decide) ?_
  refine lv_bipush (v := 102) hx hb dX12_init_356 (by decide) ?_
  refine n_bast F w (j := 53) (y := 102) (by decide) rfl ⟨by decide, by decide⟩ (by decide) (by decide) dX12_init_358 (fun H locs w => ?_)
  refine lv_dup hx hb dX12_init_359 rfl ?_
  refine lv_bipush (v := 54) hx hb dX12_init_360 (by decide) ?_
  refine lv_bipush (v := 105) hx hb dX12_init_362 (by decide) ?_
  refine n_bast F w (j := 54) (y := 105) (by decide) rfl ⟨by decide, by decide⟩ (by decide) (by decide) dX12_init_364 (fun H locs w => ?_)
  refine lv_dup hx hb dX12_init_365 rfl ?_
  refine lv_bipush (v := 55) hx hb dX12_init_366 (by decide) ?_
  refine lv_bipush (v := 108) hx hb dX12_init_368 (by decide) ?_
  refine n_bast F w (j := 55) (y := 108) (by decide) rfl ⟨by decide, by decide⟩ (by decide) (by decide) dX12_init_370 (fun H locs w => ?_)
  refine lv_dup hx hb dX12_init_371 rfl ?_
  refine lv_bipush (v := 56) hx hb dX12_init_372 (by decide) ?_
  refine lv_bipush (v := 108) hx hb dX12_init_374 (by decide) ?_
  refine n_bast F w (j := 56) (y := 108) (by decide) rfl ⟨by decide, by decide⟩ (by decide) (by decide) dX12_init_376 (fun H locs w => ?_)
  refine lv_dup hx hb dX12_init_377 rfl ?_
  refine lv_bipush (v := 57) hx hb dX12_init_378 (by decide) ?_
  refine lv_iconst (v := 0) hx hb dX12_init_380 (by decide) ?_
  refine n_bast F w (j := 57) (y := 0) (by decide) rfl ⟨by decide, by decide⟩ (by decide) (by decide) dX12_init_381 (fun H locs w => ?_)
  refine lv_dup hx hb dX12_init_382 rfl ?_
  refine lv_bipush (v := 58) hx hb dX12_init_383 (by decide) ?_
  refine lv_bipush (v := 108) hx hb dX12_init_385 (by decide) ?_
  refine n_bast F w (j := 58) (y := 108) (by decide) rfl ⟨by decide, by decide⟩ (by decide) (by decide) dX12_init_387 (fun H locs w => ?_)
  refine lv_dup hx hb dX12_init_388 rfl ?_
  refine lv_bipush (v := 59) hx hb dX12_init_389 (by decide) ?_
  refine lv_bipush (v := 111) hx hb dX12_init_391 (by decide) ?_
  refine n_bast F w (j := 59) (y := 111) (by decide) rfl ⟨by decide, by decide⟩ (by decide) (by decide) dX12_init_393 (fun H locs w => ?_)
  refine lv_dup hx hb dX12_init_394 rfl ?_
  refine lv_bipush (v := 60) hx hb dX12_init_395 (by decide) ?_
  refine lv_bipush (v := 119) hx hb dX12_init_397 (by decide) ?_
  refine n_bast F w (j := 60) (y := 119) (by decide) rfl ⟨by decide, by decide⟩ (by decide) (by decide) dX12_init_399 (fun H locs w => ?_)
  refine lv_dup hx hb dX12_init_400 rfl ?_
  refine lv_bipush (v := 61) hx hb dX12_init_401 (by decide) ?_
  refine lv_iconst (v := 0) hx hb dX12_init_403 (by decide) ?_
  refine n_bast F w (j := 61) (y := 0) (by decide) rfl ⟨by decide, by decide⟩ (by decide) (by decide) dX12_init_404 (fun H locs w => ?_)
  refine lv_dup hx hb dX12_init_405 rfl ?_
  refine lv_bipush (v := 62) hx hb dX12_init_406 (by decide) ?_
  refine lv_bipush (v := 109) hx hb dX12_init_408 (by decide) ?_
  refine n_bast F w (j := 62) (y := 109) (by decide) rfl ⟨by decide, by decide⟩ (by decide) (by decide) dX12_init_410 (fun H locs w => ?_)
  refine lv_dup hx hb dX12_init_411 rfl ?_
  refine lv_bipush (v := 63) hx hb dX12_init_412 (by decide) ?_
  refine lv_bipush (v := 105) hx hb dX12_init_414 (by decide) ?_
  refine n_bast F w (j := 63) (y := 105) (by decide) rfl ⟨by decide, by decide⟩ (by decide) (by decide) dX12_init_416 (fun H locs w => ?_)
  refine lv_dup hx hb dX12_init_417 rfl ?_
  refine lv_bipush (v := 64) hx hb dX12_init_418 (by decide) ?_
  refine lv_bipush (v := 100) hx hb dX12_init_420 (by decide) ?_
  refine n_bast F w (j := 64) (y := 100) (by decide) rfl ⟨by decide, by decide⟩ (by decide) (by decide) dX12_init_422 (fun H locs w => ?_)
  refine lv_dup hx hb dX12_init_423 rfl ?_
  refine lv_bipush (v := 65) hx hb dX12_init_424 (by decide) ?_
  refine lv_iconst (v := 0) hx hb dX12_init_426 (by decide) ?_
  refine n_bast F w (j := 65) (y := 0) (by decide) rfl ⟨by decide, by decide⟩ (by decide) (by decide) dX12_init_427 (fun H locs w => ?_)
  refine lv_dup hx hb dX12_init_428 rfl ?_
  refine lv_bipush (v := 66) hx hb dX12_init_429 (by decide) ?_
  refine lv_bipush (v := 104) hx hb dX12_init_431 (by decide) ?_
  refine n_bast F w (j := 66) (y := 104) (by decide) rfl ⟨by decide, by decide⟩ (by decide) (by decide) dX12_init_433 (fun H locs w => ?_)
  refine lv_dup hx hb dX12_init_434 rfl ?_
  refine lv_bipush (v := 67) hx hb dX12_init_435 (by decide) ?_
  refine lv_bipush (v := 105) hx hb dX12_init_437 (by decide) ?_
  refine n_bast F w (j := 67) (y := 105) (by decide) rfl ⟨by decide, by decide⟩ (by decide) (by decide) dX12_init_439 (fun H locs w => ?_)
  refine lv_dup hx hb dX12_init_440 rfl ?_
  refine lv_bipush (v := 68) hx hb dX12_init_441 (by decide) ?_
  refine lv_bipush (v := 103) hx hb dX12_init_443 (by decide) ?_
  refine n_bast F w (j := 68) (y := 103) (by decide) rfl ⟨by decide, by decide⟩ (by decide) (by decide) dX12_init_445 (fun H locs w => ?_)
  refine lv_dup hx hb dX12_init_446 rfl ?_
  refine lv_bipush (v := 69) hx hb dX12_init_447 (by decide) ?_
  refine lv_bipush (v := 104) hx hb dX12_init_449 (by decide) ?_
  refine n_bast F w (j := 69) (y := 104) (by decide) rfl ⟨by decide, by decide⟩ (by decide) (by decide) dX12_init_451 (fun H locs w => ?_)
  refine lv_dup hx hb dX12_init_452 rfl ?_
  refine lv_bipush (v := 70) hx hb dX12_init_453 (by decide) ?_
  refine lv_iconst (v := 0) hx hb dX12_init_455 (by decide) ?_
  refine n_bast F w (j := 70) (y := 0) (by decide) rfl ⟨by decide, by decide⟩ (by decide) (by decide) dX12_init_456 (fun H locs w => ?_)
  refine lv_dup hx hb dX12_init_457 rfl ?_
  refine lv_bipush (v := 71) hx hb dX12_init_458 (by decide) ?_
  refine lv_bipush (v := 97) hx hb dX12_init_460 (by decide) ?_
  refine n_bast F w (j := 71) (y := 97) (by decide) rfl ⟨by decide, by decide⟩ (by decide) (by decide) dX12_init_462 (fun H locs w => ?_)
  refine lv_dup hx hb dX12_init_463 rfl ?_
  refine lv_bipush (v := 72) hx hb dX12_init_464 (by decide) ?_
  refine lv_bipush (v := 110) hx hb dX12_init_466 (by decide) ?_
  refine n_bast F w (j := 72) (y := 110) (by decide) rfl ⟨by decide, by decide⟩ (by decide) (by decide) dX12_init_468 (fun H locs w => ?_)
  refine lv_dup hx hb dX12_init_469 rfl ?_
  refine lv_bipush (v := 73) hx hb dX12_init_470 (by decide) ?_
  refine lv_bipush (v := 121) hx hb dX12_init_472 (by decide) ?_
  refine n_bast F w (j := 73) (y := 121) (by decide) rfl ⟨by decide, by decide⟩ (by decide) (by decide) dX12_init_474 (fun H locs w => ?_)
  refine lv_dup hx hb dX12_init_475 rfl ?_
  refine lv_bipush (v := 74) hx hb dX12_init_476 (by decide) ?_
  refine lv_iconst (v := 0) hx hb dX12_init_478 (by decide) ?_
  refine n_bast F w (j := 74) (y := 0) (by decide) rfl ⟨by decide, by decide⟩ (by decide) (by decide) dX12_init_479 (fun H locs w => ?_)
  refine lv_dup hx hb dX12_init_480 rfl ?_
  refine lv_bipush (v := 75) hx hb dX12_init_481 (by decide) ?_
  refine lv_bipush (v := 114) hx hb dX12_init_483 (by decide) ?_
  refine n_bast F w (j := 75) (y := 114) (by decide) rfl ⟨by decide, by decide⟩ (by decide) (by decide) dX12_init_485 (fun H locs w => ?_)
  refine lv_dup hx hb dX12_init_486 rfl ?_
  refine lv_bipush (v := 76) hx hb dX12_init_487 (by decide) ?_
  refine lv_bipush (v := 105) hx hb dX12_init_489 (by decide) ?_
  refine n_bast F w (j := 76) (y := 105) (by decide) rfl ⟨by decide, by decide⟩ (by decide) (by decide) dX12_init_491 (fun H locs w => ?_)
  refine lv_dup hx hb dX12_init_492 rfl ?_
  refine lv_bipush (v := 77) hx hb dX12_init_493 (by decide) ?_
  refine lv_bipush (v := 103) hx hb dX12_init_495 (by decide) ?_
  refine n_bast F w (j := 77) (y := 103) (by decide) rfl ⟨by decide, by decide⟩ (by decide) (by decide) dX12_init_497 (fun H locs w => ?_)
  refine lv_dup hx hb dX12_init_498 rfl ?_
  refine lv_bipush (v := 78) hx hb dX12_init_499 (by decide) ?_
  refine lv_bipush (v := 104) hx hb dX12_init_501 (by decide) ?_
  refine n_bast F w (j := 78) (y := 104) (by decide) rfl ⟨by decide, by decide⟩ (by decide) (by decide) dX12_init_503 (fun H locs w => ?_)
  refine lv_dup hx hb dX12_init_504 rfl ?_
  refine lv_bipush (v := 79) hx hb dX12_init_505 (by decide) ?_
  refine lv_bipush (v := 116) hx hb dX12_init_507 (by decide) ?_
  refine n_bast F w (j := 79) (y := 116) (by decide) rfl ⟨by decide, by decide⟩ (by decide) (by decide) dX12_init_509 (fun H locs w => ?_)
  refine lv_dup hx hb dX12_init_510 rfl ?_
  refine lv_bipush (v := 80) hx hb dX12_init_511 (by decide) ?_
  refine lv_iconst (v := 0) hx hb dX12_init_513 (by decide) ?_
  refine n_bast F w (j := 80) (y := 0) (by decide) rfl ⟨by decide, by decide⟩ (by decide) (by decide) dX12_init_514 (fun H locs w => ?_)
  refine lv_dup hx hb dX12_init_515 rfl ?_
  refine lv_bipush (v := 81) hx hb dX12_init_516 (by decide) ?_
  refine lv_bipush (v := 108) hx hb dX12_init_518 (by decide) ?_
  refine n_bast F w (j := 81) (y := 108) (by decide) rfl ⟨by decide, by decide⟩ (by decide) (by decide) dX12_init_520 (fun H locs w => ?_)
  refine lv_dup hx hb dX12_init_521 rfl ?_
  refine lv_bipush (v := 82) hx hb dX12_init_522 (by decide) ?_
  refine lv_bipush (v := 101) hx hb dX12_init_524 (by decide) ?_
  refine n_bast F w (j := 82) (y := 101) (by decide) rfl ⟨by decide, by decide⟩ (by decide) (by decide) dX12_init_526 (fun H locs w => ?_)
  refine lv_dup hx hb dX12_init_527 rfl ?_
  refine lv_bipush (v := 83) hx hb dX12_init_528 (by decide) ?_
  refine lv_bipush (v := 102) hx hb dX12_init_530 (by decide) ?_
  refine n_bast F w (j := 83) (y := 102) (by decide) rfl ⟨by decide, by decide⟩ (by decide) (by decide) dX12_init_532 (fun H locs w => ?_)
  refine lv_dup hx hb dX12_init_533 rfl ?_
  refine lv_bipush (v := 84) hx hb dX12_init_534 (by decide) ?_
  refine lv_bipush (v := 116) hx hb dX12_init_536 (by decide) ?_
  refine n_bast F w (j := 84) (y := 116) (by decide) rfl ⟨by decide, by decide⟩ (by decide) (by decide) dX12_init_538 (fun H locs w => ?_)
  refine lv_dup hx hb dX12_init_539 rfl ?_
  refine lv_bipush (v := 85) hx hb dX12_init_540 (by decide) ?_
  refine lv_iconst (v := 0) hx hb dX12_init_542 (by decide) ?_
  refine n_bast F w (j := 85) (y := 0) (by decide) rfl ⟨by decide, by decide⟩ (by decide) (by decide) dX12_init_543 (fun H locs w => ?_)
  refine lv_dup hx hb dX12_init_544 rfl ?_
  refine lv_bipush (v := 86) hx hb dX12_init_545 (by decide) ?_
  refine lv_bipush (v := 102) hx hb dX12_init_547 (by decide) ?_
  refine n_bast F w (j := 86) (y := 102) (by decide) rfl ⟨by decide, by decide⟩ (by decide) (by decide) dX12_init_549 (fun H locs w => ?_)
  refine lv_dup hx hb dX12_init_550 rfl ?_
  refine lv_bipush (v := 87) hx hb dX12_init_551 (by decide) ?_
  refine lv_bipush (v := 105) hx hb dX12_init_553 (by decide) ?_
  refine n_bast F w (j := 87) (y := 105) (by decide) rfl ⟨by decide, by decide⟩ (by decide) (by decide) dX12_init_555 (fun H locs w => ?_)
  refine lv_dup hx hb dX12_init_556 rfl ?_
  refine lv_bipush (v := 88) hx hb dX12_init_557 (by decide) ?_
  refine lv_bipush (v := 114) hx hb dX12_init_559 (by decide) ?_
  refine n_bast F w (j := 88) (y := 114) (by decide) rfl ⟨by decide, by decide⟩ (by decide) (by decide) dX12_init_561 (fun H locs w => ?_)
  refine lv_dup hx hb dX12_init_562 rfl ?_
  refine lv_bipush (v := 89) hx hb dX12_init_563 (by decide) ?_
  refine lv_bipush (v := 115) hx hb dX12_init_565 (by decide) ?_
  refine n_bast F w (j := 89) (y := 115) (by decide) rfl ⟨by decide, by decide⟩ (by decide) (by decide) dX12_init_567 (fun H locs w => ?_)
  refine lv_dup hx hb dX12_init_568 rfl ?_
  refine lv_bipush (v := 90) hx hb dX12_init_569 (by decide) ?_
  refine lv_bipush (v := 116) hx hb dX12_init_571 (by decide) ?_
  refine n_bast F w (j := 90) (y := 116) (by decide) rfl ⟨by decide, by decide⟩ (by decide) (by decide) dX12_init_573 (fun H locs w => ?_)
  refine lv_dup hx hb dX12_init_574 rfl ?_
  refine lv_bipush (v := 91) hx hb dX12_init_575 (by decide) ?_
  refine lv_iconst (v := 0) hx hb dX12_init_577 (by decide) ?_
  refine n_bast F w (j := 91) (y := 0) (by decide) rfl ⟨by decide, by decide⟩ (by decide) (by decide) dX12_init_578 (fun H locs w => ?_)
  refine lv_dup hx hb dX12_init_579 rfl ?_
  refine lv_bipush (v := 92) hx hb dX12_init_580 (by decide) ?_
  refine lv_bipush (v := 108) hx hb dX12_init_582 (by decide) ?_
  refine n_bast F w (j := 92) (y := 108) (by decide) rfl ⟨by decide, by decide⟩ (by decide) (by decide) dX12_init_584 (fun H locs w => ?_)
  refine lv_dup hx hb dX12_init_585 rfl ?_
  refine lv_bipush (v := 93) hx hb dX12_init_586 (by decide) ?_
  refine lv_bipush (v := 97) hx hb dX12_init_588 (by decide) ?_
  refine n_bast F w (j := 93) (y := 97) (by decide) rfl ⟨by decide, by decide⟩ (by decide) (by decide) dX12_init_590 (fun H locs w => ?_)
  refine lv_dup hx hb dX12_init_591 rfl ?_
  refine lv_bipush (v := 94) hx hb dX12_init_592 (by decide) ?_
  refine lv_bipush (v := 115) hx hb dX12_init_594 (by decide) ?_
  refine n_bast F w (j := 94) (y := 115) (by decide) rfl ⟨by decide, by decide⟩ (by decide) (by decide) dX12_init_596 (fun H locs w => ?_)
  refine lv_dup hx hb dX12_init_597 rfl ?_
  refine lv_bipush (v := 95) hx hb dX12_init_598 (by decide) ?_
  refine lv_bipush (v := 116) hx hb dX12_init_600 (by decide) ?_
  refine n_bast F w (j := 95) (y := 116) (by decide) rfl ⟨by decide, by decide⟩ (by decide) (by decide) dX12_init_602 (fun H locs w => ?_)
  refine lv_dup hx hb dX12_init_603 rfl ?_
  refine lv_bipush (v := 96) hx hb dX12_init_604 (by decide) ?_
  refine lv_iconst (v := 0) hx hb dX12_init_606 (by decide) ?_
  refine n_bast F w (j := 96) (y := 0) (by decide) rfl ⟨by decide, by decide⟩ (by decide) (by decide) dX12_init_607 (fun H locs w => ?_)
  refine lv_dup hx hb dX12_init_608 rfl ?_
  refine lv_bipush (v := 97) hx hb dX12_init_609 (by decide) ?_
  refine lv_bipush (v := 116) hx hb dX12_init_611 (by decide) ?_
  refine n_bast F w (j := 97) (y := 116) (by decide) rfl ⟨by decide, by decide⟩ (by decide) (by decide) dX12_init_613 (fun H locs w => ?_)
  refine lv_dup hx hb dX12_init_614 rfl ?_
  refine lv_bipush (v := 98) hx hb dX12_init_615 (by decide) ?_
  refine lv_bipush (v := 111) hx hb dX12_init_617 (by decide) ?_
  refine n_bast F w (j := 98) (y := 111) (by decide) rfl ⟨by decide, by decide⟩ (by decide) (by decide) dX12_init_619 (fun H locs w => ?_)
  refine lv_dup hx hb dX12_init_620 rfl ?_
  refine lv_bipush (v := 99) hx hb dX12_init_621 (by decide) ?_
  refine lv_iconst (v := 0) hx hb dX12_init_623 (by decide) ?_
  refine n_bast F w (j := 99) (y := 0) (by decide) rfl ⟨by decide, by decide⟩ (by decide) (by decide) dX12_init_624 (fun H locs w => ?_)
  refine lv_dup hx hb dX12_init_625 rfl ?_
  refine lv_bipush (v := 100) hx hb dX12_init_626 (by decide) ?_
  refine lv_bipush (v := 105) hx hb dX12_init_628 (by decide) ?_
  refine n_bast F w (j := 100) (y := 105) (by decide) rfl ⟨by decide, by decide⟩ (by decide) (by decide) dX12_init_630 (fun H locs w => ?_)
  refine lv_dup hx hb dX12_init_631 rfl ?_
  refine lv_bipush (v := 101) hx hb dX12_init_632 (by decide) ?_
  refine lv_bipush (v := 102) hx hb dX12_init_634 (by decide) ?_
  refine n_bast F w (j := 101) (y := 102) (by decide) rfl ⟨by decide, by decide⟩ (by decide) (by decide) dX12_init_636 (fun H locs w => ?_)
  refine lv_dup hx hb dX12_init_637 rfl ?_
  refine lv_bipush (v := 102) hx hb dX12_init_638 (by decide) ?_
  refine lv_iconst (v := 0) hx hb dX12_init_640 (by decide) ?_
  refine n_bast F w (j := 102) (y := 0) (by decide) rfl ⟨by decide, by decide⟩ (by decide) (by decide) dX12_init_641 (fun H locs w => ?_)
  refine lv_dup hx hb dX12_init_642 rfl ?_
  refine lv_bipush (v := 103) hx hb dX12_init_643 (by decide) ?_
  refine lv_bipush (v := 110) hx hb dX12_init_645 (by decide) ?_
  refine n_bast F w (j := 103) (y := 110) (by decide) rfl ⟨by decide, by decide⟩ (by decide) (by decide) dX12_init_647 (fun H locs w => ?_)
  refine lv_dup hx hb dX12_init_648 rfl ?_
  refine lv_bipush (v := 104) hx hb dX12_init_649 (by decide) ?_
  refine lv_bipush (v := 111) hx hb dX12_init_651 (by decide) ?_
  refine n_bast F w (j := 104) (y := 111) (by decide) rfl ⟨by decide, by decide⟩ (by decide) (by decide) dX12_init_653 (fun H locs w => ?_)
  refine lv_dup hx hb dX12_init_654 rfl ?_
  refine lv_bipush (v := 105) hx hb dX12_init_655 (by decide) ?_
  refine lv_bipush (v := 116) hx hb dX12_init_657 (by decide) ?_
  refine n_bast F w (j := 105) (y := 116) (by decide) rfl ⟨by decide, by decide⟩ (by decide) (by decide) dX12_init_659 (fun H locs w => ?_)
  refine lv_dup hx hb dX12_init_660 rfl ?_
  refine lv_bipush (v := 106) hx hb dX12_init_661 (by decide) ?_
  refine lv_iconst (v := 0) hx hb dX12_init_663 (by decide) ?_
  refine n_bast F w (j := 106) (y := 0) (by decide) rfl ⟨by decide, by decide⟩ (by decide) (by decide) dX12_init_664 (fun H locs w => ?_)
  refine lv_dup hx hb dX12_init_665 rfl ?_
  refine lv_bipush (v := 107) hx hb dX12_init_666 (by decide) ?_
  refine lv_bipush (v := 98) hx hb dX12_init_668 (by decide) ?_
  refine n_bast F w (j := 107) (y := 98) (by decide) rfl ⟨by decide, by decide⟩ (by decide) (by decide) dX12_init_670 (fun H locs w => ?_)
  refine lv_dup hx hb dX12_init_671 rfl ?_
  refine lv_bipush (v := 108) hx hb dX12_init_672 (by decide) ?_
  refine lv_bipush (v := 101) hx hb dX12_init_674 (by decide) ?_
  refine n_bast F w (j := 108) (y := 101) (by decide) rfl ⟨by decide, by decide⟩ (by decide) (by decide) dX12_init_676 (fun H locs w => ?_)
  refine lv_dup hx hb dX12_init_677 rfl ?_
  refine lv_bipush (v := 109) hx hb dX12_init_678 (by decide) ?_
  refine lv_bipush (v := 103) hx hb dX12_init_680 (by decide) ?_
  refine n_bast F w (j := 109) (y := 103) (by decide) rfl ⟨by decide, by decide⟩ (by decide) (by decide) dX12_init_682 (fun H locs w => ?_)
  refine lv_dup hx hb dX12_init_683 rfl ?_
  refine lv_bipush (v := 110) hx hb dX12_init_684 (by decide) ?_
  refine lv_bipush (v := 105) hx hb dX12_init_686 (by decide) ?_
  refine n_bast F w (j := 110) (y := 105) (by decide) rfl ⟨by decide, by decide⟩ (by decide) (by decide) dX12_init_688 (fun H locs w => ?_)
  refine lv_dup hx hb dX12_init_689 rfl ?_
  refine lv_bipush (v := 111) hx hb dX12_init_690 (by decide) ?_
  refine lv_bipush (v := 110) hx hb dX12_init_692 (by decide) ?_
  refine n_bast F w (j := 111) (y := 110) (by decide) rfl ⟨by decide, by decide⟩ (by decide) (by decide) dX12_init_694 (fun H locs w => ?_)
  refine lv_dup hx hb dX12_init_695 rfl ?_
  refine lv_bipush (v := 112) hx hb dX12_init_696 (by decide) ?_
  refine lv_iconst (v := 0) hx hb dX12_init_698 (by decide) ?_
  refine n_bast F w (j := 112) (y := 0) (by decide) rfl ⟨by decide, by decide⟩ (by decide) (by decide) dX12_init_699 (fun H locs w => ?_)
  refine lv_dup hx hb dX12_init_700 rfl ?_
  refine lv_bipush (v := 113) hx hb dX12_init_701 (by decide) ?_
  refine lv_bipush (v := 101) hx hb dX12_init_703 (by decide) ?_
  refine n_bast F w (j := 113) (y := 101) (by decide) rfl ⟨by decide, by decide⟩ (by decide) (by decide) dX12_init_705 (fun H locs w => ?_)
  refine lv_dup hx hb dX12_init_706 rfl ?_
  refine lv_bipush (v := 114) hx hb dX12_init_707 (by decide) ?_
  refine lv_bipush (v := 110) hx hb dX12_init_709 (by decide) ?_
  refine n_bast F w (j := 114) (y := 110) (by decide) rfl ⟨by decide, by decide⟩ (by decide) (by decide) dX12_init_711 (fun H locs w => ?_)
  refine lv_dup hx hb dX12_init_712 rfl ?_
  refine lv_bipush (v := 115) hx hb dX12_init_713 (by decide) ?_
  refine lv_bipush (v := 100) hx hb dX12_init_715 (by decide) ?_
  refine n_bast F w (j := 115) (y := 100) (by decide) rfl ⟨by decide, by decide⟩ (by decide) (by decide) dX12_init_717 (fun H locs w => ?_)
  refine lv_dup hx hb dX12_init_718 rfl ?_
  refine lv_bipush (v := 116) hx hb dX12_init_719 (by decide) ?_
  refine lv_iconst (v := 0) hx hb dX12_init_721 (by decide) ?_
  refine n_bast F w (j := 116) (y := 0) (by decide) rfl ⟨by decide, by decide⟩ (by decide) (by decide) dX12_init_722 (fun H locs w => ?_)
  refine lv_dup hx hb dX12_init_723 rfl ?_
  refine lv_bipush (v := 117) hx hb dX12_init_724 (by decide) ?_
  refine lv_bipush (v := 104) hx hb dX12_init_726 (by decide) ?_
  refine n_bast F w (j := 117) (y := 104) (by decide) rfl ⟨by decide, by decide⟩ (by decide) (by decide) dX12_init_728 (fun H locs w => ?_)
  refine lv_dup hx hb dX12_init_729 rfl ?_
  refine lv_bipush (v := 118) hx hb dX12_init_730 (by decide) ?_
  refine lv_bipush (v := 101) hx hb dX12_init_732 (by decide) ?_
  refine n_bast F w (j := 118) (y := 101) (by decide) rfl ⟨by decide, by decide⟩ (by decide) (by decide) dX12_init_734 (fun H locs w => ?_)
  refine lv_dup hx hb dX12_init_735 rfl ?_
  refine lv_bipush (v := 119) hx hb dX12_init_736 (by decide) ?_
  refine lv_bipush (v := 97) hx hb dX12_init_738 (by decide) ?_
  refine n_bast F w (j := 119) (y := 97) (by decide) rfl ⟨by decide, by decide⟩ (by decide) (by decide) dX12_init_740 (fun H locs w => ?_)
  refine lv_dup hx hb dX12_init_741 rfl ?_
  refine lv_bipush (v := 120) hx hb dX12_init_742 (by decide) ?_
  refine lv_bipush (v := 118) hx hb dX12_init_744 (by decide) ?_
  refine n_bast F w (j := 120) (y := 118) (by decide) rfl ⟨by decide, by decide⟩ (by decide) (by decide) dX12_init_746 (fun H locs w => ?_)
  refine lv_dup hx hb dX12_init_747 rfl ?_
  refine lv_bipush (v := 121) hx hb dX12_init_748 (by decide) ?_
  refine lv_bipush (v := 121) hx hb dX12_init_750 (by decide) ?_
  refine n_bast F w (j := 121) (y := 121) (by decide) rfl ⟨by decide, by decide⟩ (by decide) (by decide) dX12_init_752 (fun H locs w => ?_)
  refine lv_dup hx hb dX12_init_753 rfl ?_
  refine lv_bipush (v := 122) hx hb dX12_init_754 (by decide) ?_
  refine lv_iconst (v := 0) hx hb dX12_init_756 (by decide) ?_
  refine n_bast F w (j := 122) (y := 0) (by decide) rfl ⟨by decide, by decide⟩ (by decide) (by decide) dX12_init_757 (fun H locs w => ?_)
  refine lv_dup hx hb dX12_init_758 rfl ?_
  refine lv_bipush (v := 123) hx hb dX12_init_759 (by decide) ?_
  refine lv_bipush (v := 109) hx hb dX12_init_761 (by decide) ?_
  refine n_bast F w (j := 123) (y := 109) (by decide) rfl ⟨by decide, by decide⟩ (by decide) (by decide) dX12_init_763 (fun H locs w => ?_)
  refine lv_dup hx hb dX12_init_764 rfl ?_
  refine lv_bipush (v := 124) hx hb dX12_init_765 (by decide) ?_
  refine lv_bipush (v := 97) hx hb dX12_init_767 (by decide) ?_
  refine n_bast F w (j := 124) (y := 97) (by decide) rfl ⟨by decide, by decide⟩ (by decide) (by decide) dX12_init_769 (fun H locs w => ?_)
  refine lv_dup hx hb dX12_init_770 rfl ?_
  refine lv_bipush (v := 125) hx hb dX12_init_771 (by decide) ?_
  refine lv_bipush (v := 110) hx hb dX12_init_773 (by decide) ?_
  refine n_bast F w (j := 125) (y := 110) (by decide) rfl ⟨by decide, by decide⟩ (by decide) (by decide) dX12_init_775 (fun H locs w => ?_)
  refine lv_dup hx hb dX12_init_776 rfl ?_
  refine lv_bipush (v := 126) hx hb dX12_init_777 (by decide) ?_
  refine lv_bipush (v := 121) hx hb dX12_init_779 (by decide) ?_
  refine n_bast F w (j := 126) (y := 121) (by decide) rfl ⟨by decide, by decide⟩ (by decide) (by decide) dX12_init_781 (fun H locs w => ?_)
  refine lv_dup hx hb dX12_init_782 rfl ?_
  refine lv_bipush (v := 127) hx hb dX12_init_783 (by decide) ?_
  refine lv_iconst (v := 0) hx hb dX12_init_785 (by decide) ?_
  refine n_bast F w (j := 127) (y := 0) (by decide) rfl ⟨by decide, by decide⟩ (by decide) (by decide) dX12_init_786 (fun H locs w => ?_)
  refine lv_dup hx hb dX12_init_787 rfl ?_
  refine lv_sipush (v := 128) hx hb dX12_init_788 (by decide) ?_
  refine lv_bipush (v := 102) hx hb dX12_init_791 (by decide) ?_
  refine n_bast F w (j := 128) (y := 102) (by decide) rfl ⟨by decide, by decide⟩ (by decide) (by decide) dX12_init_793 (fun H locs w => ?_)
  refine lv_dup hx hb dX12_init_794 rfl ?_
  refine lv_sipush (v := 129) hx hb dX12_init_795 (by decide) ?_
  refine lv_bipush (v := 108) hx hb dX12_init_798 (by decide) ?_
  refine n_bast F w (j := 129) (y := 108) (by decide) rfl ⟨by decide, by decide⟩ (by decide) (by decide) dX12_init_800 (fun H locs w => ?_)
  refine lv_dup hx hb dX12_init_801 rfl ?_
  refine lv_sipush (v := 130) hx hb dX12_init_802 (by decide) ?_
  refine lv_bipush (v := 111) hx hb dX12_init_805 (by decide) ?_
  refine n_bast F w (j := 130) (y := 111) (by decide) rfl ⟨by decide, by decide⟩ (by decide) (by decide) dX12_init_807 (fun H locs w => ?_)
  refine lv_dup hx hb dX12_init_808 rfl ?_
  refine lv_sipush (v := 131) hx hb dX12_init_809 (by decide) ?_
  refine lv_bipush (v := 97) hx hb dX12_init_812 (by decide) ?_
  refine n_bast F w (j := 131) (y := 97) (by decide) rfl ⟨by decide, by decide⟩ (by decide) (by decide) dX12_init_814 (fun H locs w => ?_)
  refine lv_dup hx hb dX12_init_815 rfl ?_
  refine lv_sipush (v := 132) hx hb dX12_init_816 (by decide) ?_
  refine lv_bipush (v := 116) hx hb dX12_init_819 (by decide) ?_
  refine n_bast F w (j := 132) (y := 116) (by decide) rfl ⟨by decide, by decide⟩ (by decide) (by decide) dX12_init_821 (fun H locs w => ?_)
  refine lv_dup hx hb dX12_init_822 rfl ?_
  refine lv_sipush (v := 133) hx hb dX12_init_823 (by decide) ?_
  refine lv_iconst (v := 0) hx hb dX12_init_826 (by decide) ?_
  refine n_bast F w (j := 133) (y := 0) (by decide) rfl ⟨by decide, by decide⟩ (by decide) (by decide) dX12_init_827 (fun H locs w => ?_)
  refine lv_dup hx hb dX12_init_828 rfl ?_
  refine lv_sipush (v := 134) hx hb dX12_init_829 (by decide) ?_
  refine lv_bipush (v := 98) hx hb dX12_init_832 (by decide) ?_
  refine n_bast F w (j := 134) (y := 98) (by decide) rfl ⟨by decide, by decide⟩ (by decide) (by decide) dX12_init_834 (fun H locs w => ?_)
  refine lv_dup hx hb dX12_init_835 rfl ?_
  refine lv_sipush (v := 135) hx hb dX12_init_836 (by decide) ?_
  refine lv_bipush (v := 101) hx hb dX12_init_839 (by decide) ?_
  refine n_bast F w (j := 135) (y := 101) (by decide) rfl ⟨by decide, by decide⟩ (by decide) (by decide) dX12_init_841 (fun H locs w => ?_)
  refine lv_dup hx hb dX12_init_842 rfl ?_
  refine lv_sipush (v := 136) hx hb dX12_init_843 (by decide) ?_
  refine lv_bipush (v := 102) hx hb dX12_init_846 (by decide) ?_
  refine n_bast F w (j := 136) (y := 102) (by decide) rfl ⟨by decide, by decide⟩ (by decide) (by decide) dX12_init_848 (fun H locs w => ?_)
  refine lv_dup hx hb dX12_init_849 rfl ?_
  refine lv_sipush (v := 137) hx hb dX12_init_850 (by decide) ?_
  refine lv_bipush (v := 111) hx hb dX12_init_853 (by decide) ?_
  refine n_bast F w (j := 137) (y := 111) (by decide) rfl ⟨by decide, by decide⟩ (by decide) (by decide) dX12_init_855 (fun H locs w => ?_)
  refine lv_dup hx hb dX12_init_856 rfl ?_
  refine lv_sipush (v := 138) hx hb dX12_init_857 (by decide) ?_
  refine lv_bipush (v := 114) hx hb dX12_init_860 (by decide) ?_
  refine n_bast F w (j := 138) (y := 114) (by decide) rfl ⟨by decide, by decide⟩ (by decide) (by decide) dX12_init_862 (fun H locs w => ?_)
  refine lv_dup hx hb dX12_init_863 rfl ?_
  refine lv_sipush (v := 139) hx hb dX12_init_864 (by decide) ?_
  refine lv_bipush (v := 101) hx hb dX12_init_867 (by decide) ?_
  refine n_bast F w (j := 139) (y := 101) (by decide) rfl ⟨by decide, by decide⟩ (by decide) (by decide) dX12_init_869 (fun H locs w => ?_)
  refine lv_dup hx hb dX12_init_870 rfl ?_
  refine lv_sipush (v := 140) hx hb dX12_init_871 (by decide) ?_
  refine lv_iconst (v := 0) hx hb dX12_init_874 (by decide) ?_
  refine n_bast F w (j := 140) (y := 0) (by decide) rfl ⟨by decide, by decide⟩ (by decide) (by decide) dX12_init_875 (fun H locs w => ?_)
  refine lv_dup hx hb dX12_init_876 rfl ?_
  refine lv_sipush (v := 141) hx hb dX12_init_877 (by decide) ?_
  refine lv_bipush (v := 97) hx hb dX12_init_880 (by decide) ?_
  refine n_bast F w (j := 141) (y := 97) (by decide) rfl ⟨by decide, by decide⟩ (by decide) (by decide) dX12_init_882 (fun H locs w => ?_)
  refine lv_dup hx hb dX12_init_883 rfl ?_
  refine lv_sipush (v := 142) hx hb dX12_init_884 (by decide) ?_
  refine lv_bipush (v := 102) hx hb dX12_init_887 (by decide) ?_
  refine n_bast F w (j := 142) (y := 102) (by decide) rfl ⟨by decide, by decide⟩ (by decide) (by decide) dX12_init_889 (fun H locs w => ?_)
  refine lv_dup hx hb dX12_init_890 rfl ?_
  refine lv_sipush (v := 143) hx hb dX12_init_891 (by decide) ?_
  refine lv_bipush (v := 116) hx hb dX12_init_894 (by decide) ?_
  refine n_bast F w (j := 143) (y := 116) (by decide) rfl ⟨by decide, by decide⟩ (by decide) (by decide) dX12_init_896 (fun H locs w => ?_)
  refine lv_dup hx hb dX12_init_897 rfl ?_
  refine lv_sipush (v := 144) hx hb dX12_init_898 (by decide) ?_
  refine lv_bipush (v := 101) hx hb dX12_init_901 (by decide) ?_
  refine n_bast F w (j := 144) (y := 101) (by decide) rfl ⟨by decide, by decide⟩ (by decide) (by decide) dX12_init_903 (fun H locs w => ?_)
  refine lv_dup hx hb dX12_init_904 rfl ?_
  refine lv_sipush (v := 145) hx hb dX12_init_905 (by decide) ?_
  refine lv_bipush (v := 114) hx hb dX12_init_908 (by decide) ?_
  refine n_bast F w (j := 145) (y := 114) (by decide) rfl ⟨by decide, by decide⟩ (by decide) (by decide) dX12_init_910 (fun H locs w => ?_)
  refine lv_dup hx hb dX12_init_911 rfl ?_
  refine lv_sipush (v := 146) hx hb dX12_init_912 (by decide) ?_
  refine lv_iconst (v := 0) hx hb dX12_init_915 (by decide) ?_
  refine n_bast F w (j := 146) (y := 0) (by decide) rfl ⟨by decide, by decide⟩ (by decide) (by decide) dX12_init_916 (fun H locs w => ?_)
  refine n_putF F w (a := 146) (C := RX12) (T := TX12) (N := 27) (ci := 12) (k := 12) (x := .ref (B + 152)) (ty := .array .byte) (fs1 := [.int 0, .ref (B + 147), .ref (B + 148), .int 0, .ref (B + 149), .int 0, .int 0, .ref (B + 150), .int 0, .int 0, .ref (B + 151), .int 0, .ref (B + 152), .int 0, .int 0, .int 0, .int 0, .null, .null, .null, .int 0, .null, .int 0, .null, .null, .int 0, .int 0]) tyX12 tyX12_ok nmX12 (by decide) ((up_ne (by decide)).trans up_at) rfl rfl inT12 (by decide) rfl tb_664 rfl hin rfl (by decide +kernel) rfl rfl (Nat.le_of_ble_eq_true rfl) dX12_init_917 (fun H locs w => ?_)
  refine lv_aload_n hx hb dX12_init_920 rfl (lv_at hl 0 rfl) ?_
  refine lv_bipush (v := 8) hx hb dX12_init_921 (by decide) ?_
  refine n_newa F w (atype := .int) (ty := .int) (t := 2) (N := 8) (cA := cy 2) (a0 := (8, .inl (fun _ => 0))) tb_741 rfl (fun _ h => h) rfl (fun _ => rfl) (by decide) (by decide) (Nat.le_of_ble_eq_true rfl) (Nat.le_of_ble_eq_true rfl) (Nat.le_of_ble_eq_true rfl) (c1 := 7) (s1 := 603) (n1 := 154) rfl rfl rfl dX12_init_923 (fun H w => ?_)
  refine n_putF F w (a := 146) (C := RX12) (T := TX12) (N := 27) (ci := 12) (k := 17) (x := .ref (B + 153)) (ty := .array .int) (fs1 := [.int 0, .ref (B + 147), .ref (B + 148), .int 0, .ref (B + 149), .int 0, .int 0, .ref (B + 150), .int 0, .int 0, .ref (B + 151), .int 0, .ref (B + 152), .int 0, .int 0, .int 0, .int 0, .ref (B + 153), .null, .null, .int 0, .null, .int 0, .null, .null, .int 0, .int 0]) tyX12 tyX12_ok nmX12 (by decide) ((up_ne (by decide)).trans up_at) rfl rfl inT12 (by decide) rfl tb_676 rfl hin rfl (by decide +kernel) rfl rfl (Nat.le_of_ble_eq_true rfl) dX12_init_925 (fun H locs w => ?_)
  refine lv_aload_n hx hb dX12_init_928 rfl (lv_at hl 0 rfl) ?_
  refine lv_bipush (v := 64) hx hb dX12_init_929 (by decide) ?_
  refine n_newa F w (atype := .int) (ty := .int) (t := 2) (N := 64) (cA := cy 2) (a0 := (64, .inl (fun _ => 0))) tb_741 rfl (fun _ h => h) rfl (fun _ => rfl) (by decide) (by decide) (Nat.le_of_ble_eq_true rfl) (Nat.le_of_ble_eq_true rfl) (Nat.le_of_ble_eq_true rfl) (c1 := 8) (s1 := 667) (n1 := 155) rfl rfl rfl dX12_init_931 (fun H w => ?_)
  refine n_putF F w (a := 146) (C := RX12) (T := TX12) (N := 27) (ci := 12) (k := 18) (x := .ref (B + 154)) (ty := .array .int) (fs1 := [.int 0, .ref (B + 147), .ref (B + 148), .int 0, .ref (B + 149), .int 0, .int 0, .ref (B + 150), .int 0, .int 0, .ref (B + 151), .int 0, .ref (B + 152), .int 0, .int 0, .int 0, .int 0, .ref (B + 153), .ref (B + 154), .null, .int 0, .null, .int 0, .null, .null, .int 0, .int 0]) tyX12 tyX12_ok nmX12 (by decide) ((up_ne (by decide)).trans up_at) rfl rfl inT12 (by decide) rfl tb_721 rfl hin rfl (by decide +kernel) rfl rfl (Nat.le_of_ble_eq_true rfl) dX12_init_933 (fun H locs w => ?_)
  refine lv_aload_n hx hb dX12_init_936 rfl (lv_at hl 0 rfl) ?_
  refine lv_sipush (v := 336) hx hb dX12_init_937 (by decide) ?_
  refine n_newa F w (atype := .int) (ty := .int) (t := 2) (N := 336) (cA := cy 2) (a0 := (336, .inl (fun _ => 0))) tb_741 rfl (fun _ h => h) rfl (fun _ => rfl) (by decide) (by decide) (Nat.le_of_ble_eq_true rfl) (Nat.le_of_ble_eq_true rfl) (Nat.le_of_ble_eq_true rfl) (c1 := 9) (s1 := 1003) (n1 := 156) rfl rfl rfl dX12_init_940 (fun H w => ?_)
  refine n_putF F w (a := 146) (C := RX12) (T := TX12) (N := 27) (ci := 12) (k := 19) (x := .ref (B + 155)) (ty := .array .int) (fs1 := [.int 0, .ref (B + 147), .ref (B + 148), .int 0, .ref (B + 149), .int 0, .int 0, .ref (B + 150), .int 0, .int 0, .ref (B + 151), .int 0, .ref (B + 152), .int 0, .int 0, .int 0, .int 0, .ref (B + 153), .ref (B + 154), .ref (B + 155), .int 0, .null, .int 0, .null, .null, .int 0, .int 0]) tyX12 tyX12_ok nmX12 (by decide) ((up_ne (by decide)).trans up_at) rfl rfl inT12 (by decide) rfl tb_663 rfl hin rfl (by decide +kernel) rfl rfl (Nat.le_of_ble_eq_true rfl) dX12_init_942 (fun H locs w => ?_)
  refine lv_aload_n hx hb dX12_init_945 rfl (lv_at hl 0 rfl) ?_
  refine lv_sipush (v := 260) hx hb dX12_init_946 (by decide) ?_
  refine n_newa F w (atype := .int) (ty := .int) (t := 2) (N := 260) (cA := cy 2) (a0 := (260, .inl (fun _ => 0))) tb_741 rfl (fun _ h => h) rfl (fun _ => rfl) (by decide) (by decide) (Nat.le_of_ble_eq_true rfl) (Nat.le_of_ble_eq_true rfl) (Nat.le_of_ble_eq_true rfl) (c1 := 10) (s1 := 1263) (n1 := 157) rfl rfl rfl dX12_init_949 (fun H w => ?_)
  refine n_putF F w (a := 146) (C := RX12) (T := TX12) (N := 27) (ci := 12) (k := 21) (x := .ref (B + 156)) (ty := .array .int) (fs1 := [.int 0, .ref (B + 147), .ref (B + 148), .int 0, .ref (B + 149), .int 0, .int 0, .ref (B + 150), .int 0, .int 0, .ref (B + 151), .int 0, .ref (B + 152), .int 0, .int 0, .int 0, .int 0, .ref (B + 153), .ref (B + 154), .ref (B + 155), .int 0, .ref (B + 156), .int 0, .null, .null, .int 0, .int 0]) tyX12 tyX12_ok nmX12 (by decide) ((up_ne (by decide)).trans up_at) rfl rfl inT12 (by decide) rfl tb_697 rfl hin rfl (by decide +kernel) rfl rfl (Nat.le_of_ble_eq_true rfl) dX12_init_951 (fun H locs w => ?_)
  refine lv_aload_n hx hb dX12_init_954 rfl (lv_at hl 0 rfl) ?_
  refine lv_bipush (v := 12) hx hb dX12_init_955 (by decide) ?_
  refine n_newa F w (atype := .int) (ty := .int) (t := 2) (N := 12) (cA := cy 2) (a0 := (12, .inl (fun _ => 0))) tb_741 rfl (fun _ h => h) rfl (fun _ => rfl) (by decide) (by decide) (Nat.le_of_ble_eq_true rfl) (Nat.le_of_ble_eq_true rfl) (Nat.le_of_ble_eq_true rfl) (c1 := 11) (s1 := 1275) (n1 := 158) rfl rfl rfl dX12_init_957 (fun H w => ?_)
  refine n_putF F w (a := 146) (C := RX12) (T := TX12) (N := 27) (ci := 12) (k := 23) (x := .ref (B + 157)) (ty := .array .int) (fs1 := [.int 0, .ref (B + 147), .ref (B + 148), .int 0, .ref (B + 149), .int 0, .int 0, .ref (B + 150), .int 0, .int 0, .ref (B + 151), .int 0, .ref (B + 152), .int 0, .int 0, .int 0, .int 0, .ref (B + 153), .ref (B + 154), .ref (B + 155), .int 0, .ref (B + 156), .int 0, .ref (B + 157), .null, .int 0, .int 0]) tyX12 tyX12_ok nmX12 (by decide) ((up_ne (by decide)).trans up_at) rfl rfl inT12 (by decide) rfl tb_643 rfl hin rfl (by decide +kernel) rfl rfl (Nat.le_of_ble_eq_true rfl) dX12_init_959 (fun H locs w => ?_)
  refine lv_aload_n hx hb dX12_init_962 rfl (lv_at hl 0 rfl) ?_
  refine lv_sipush (v := 8640) hx hb dX12_init_963 (by decide) ?_
  refine n_newa F w (atype := .int) (ty := .int) (t := 2) (N := 8640) (cA := cy 2) (a0 := (8640, .inl (fun _ => 0))) tb_741 rfl (fun _ h => h) rfl (fun _ => rfl) (by decide) (by decide) (Nat.le_of_ble_eq_true rfl) (Nat.le_of_ble_eq_true rfl) (Nat.le_of_ble_eq_true rfl) (c1 := 12) (s1 := 9915) (n1 := 159) rfl rfl rfl dX12_init_966 (fun H w => ?_)
  refine n_putF F w (a := 146) (C := RX12) (T := TX12) (N := 27) (ci := 12) (k := 24) (x := .ref (B + 158)) (ty := .array .int) (fs1 := [.int 0, .ref (B + 147), .ref (B + 148), .int 0, .ref (B + 149), .int 0, .int 0, .ref (B + 150), .int 0, .int 0, .ref (B + 151), .int 0, .ref (B + 152), .int 0, .int 0, .int 0, .int 0, .ref (B + 153), .ref (B + 154), .ref (B + 155), .int 0, .ref (B + 156), .int 0, .ref (B + 157), .ref (B + 158), .int 0, .int 0]) tyX12 tyX12_ok nmX12 (by decide) ((up_ne (by decide)).trans up_at) rfl rfl inT12 (by decide) rfl tb_696 rfl hin rfl (by decide +kernel) rfl rfl (Nat.le_of_ble_eq_true rfl) dX12_init_968 (fun H locs w => ?_)
  exact n_end F w hr hlocks dX12_init_971
def wordsF : Nat → Int32 := (upd (upd (upd (upd (upd (upd (upd (upd (upd (upd (upd (upd (upd (upd (upd (upd (upd (upd (upd (upd (upd (upd (upd (upd (upd (upd (upd (upd (upd (upd (upd (upd (upd (upd (upd (upd (upd (upd (upd (upd (upd (upd (upd (upd (upd (upd (upd (upd (upd (upd (upd (upd (upd (upd (upd (upd (upd (upd (upd (upd (upd (upd (upd (upd (upd (upd (upd (upd (upd (upd (upd (upd (upd (upd (upd (upd (upd (upd (upd (upd (upd (upd (upd (upd (upd (upd (upd (upd (upd (upd (upd (upd (upd (upd (upd (upd (upd (upd (upd (upd (upd (upd (upd (upd (upd (upd (upd (upd (upd (upd (upd (upd (upd (upd (upd (upd (upd (upd (upd (upd (upd (upd (upd (upd (upd (upd (upd (upd (upd (upd (upd (upd (upd (upd (upd (upd (upd (upd (upd (upd (upd (upd (upd (upd (upd (upd (upd (fun _ => 0) 0 97) 1 103) 2 97) 3 105) 4 110) 5 0) 6 108) 7 105) 8 110) 9 107) 10 0) 11 115) 12 112) 13 114) 14 101) 15 97) 16 100) 17 0) 18 115) 19 104) 20 105) 21 102) 22 116) 23 0) 24 99) 25 117) 26 116) 27 0) 28 100) 29 111) 30 99) 31 107) 32 0) 33 100) 34 114) 35 111) 36 112) 37 0) 38 102) 39 117) 40 115) 41 101) 42 0) 43 116) 44 117) 45 114) 46 110) 47 0) 48 102) 49 108) 50 97) 51 116) 52 0) 53 102) 54 105) 55 108) 56 108) 57 0) 58 108) 59 111) 60 119) 61 0) 62 109) 63 105) 64 100) 65 0) 66 104) 67 105) 68 103) 69 104) 70 0) 71 97) 72 110) 73 121) 74 0) 75 114) 76 105) 77 103) 78 104) 79 116) 80 0) 81 108) 82 101) 83 102) 84 116) 85 0) 86 102) 87 105) 88 114) 89 115) 90 116) 91 0) 92 108) 93 97) 94 115) 95 116) 96 0) 97 116) 98 111) 99 0) 100 105) 101 102) 102 0) 103 110) 104 111) 105 116) 106 0) 107 98) 108 101) 109 103) 110 105) 111 110) 112 0) 113 101) 114 110) 115 100) 116 0) 117 104) 118 101) 119 97) 120 118) 121 121) 122 0) 123 109) 124 97) 125 110) 126 121) 127 0) 128 102) 129 108) 130 111) 131 97) 132 116) 133 0) 134 98) 135 101) 136 102) 137 111) 138 114) 139 101) 140 0) 141 97) 142 102) 143 116) 144 101) 145 114) 146 0)
def M0 : Mem := (fun a => if a = 152 then wordsF else fun _ => 0, fun _ _ => 0)
