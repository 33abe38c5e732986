theorem udX10_readLines_17 : decode cX10_readLines 17 = .ok (.aload_n 0, 1) := dq0 kk_42 (by decide +kernel)
theorem udX10_readLines_18 : decode cX10_readLines 18 = .ok (.getfield 9, 3) := dqV kk_180 (by decide +kernel)
theorem udX10_readLines_21 : decode cX10_readLines 21 = .ok (.aload_n 0, 1) := dq0 kk_42 (by decide +kernel)
theorem udX10_readLines_22 : decode cX10_readLines 22 = .ok (.getfield 15, 3) := dqV kk_180 (by decide +kernel)
theorem udX10_readLines_25 : decode cX10_readLines 25 = .ok (.getfield 40, 3) := dqV kk_180 (by decide +kernel)
theorem udX10_readLines_28 : decode cX10_readLines 28 = .ok (.if_icmp .ge 143, 3) := dqT kk_162 (by decide +kernel)
theorem udX10_readLines_31 : decode cX10_readLines 31 = .ok (.iload_n 2, 1) := dq0 kk_28 (by decide +kernel)
theorem udX10_readLines_32 : decode cX10_readLines 32 = .ok (.sipush 300, 3) := dqT kk_17 (by decide +kernel)
theorem udX10_readLines_35 : decode cX10_readLines 35 = .ok (.if_icmp .ge 136, 3) := dqT kk_162 (by decide +kernel)
theorem udX10_readLines_38 : decode cX10_readLines 38 = .ok (.aload_n 0, 1) := dq0 kk_42 (by decide +kernel)
theorem udX10_readLines_39 : decode cX10_readLines 39 = .ok (.getfield 9, 3) := dqV kk_180 (by decide +kernel)
theorem udX10_readLines_42 : decode cX10_readLines 42 = .ok (.istore_n 3, 1) := dq0 kk_62 (by decide +kernel)
theorem udX10_readLines_43 : decode cX10_readLines 43 = .ok (.aload_n 0, 1) := dq0 kk_42 (by decide +kernel)
theorem udX10_readLines_44 : decode cX10_readLines 44 = .ok (.aload_n 1, 1) := dq0 kk_43 (by decide +kernel)
theorem udX10_readLines_45 : decode cX10_readLines 45 = .ok (.getfield 53, 3) := dqV kk_180 (by decide +kernel)
theorem udX10_readLines_48 : decode cX10_readLines 48 = .ok (.invokevirtual 67, 3) := dqV kk_182 (by decide +kernel)
theorem utk_X10_readNumber : Cond.code yX10_readNumber cX10_readNumber 5 (some .int) ∈ TB := tbm (tc2 (List.mem_of_getElem? (i := 234) rfl)) rfl
theorem ugc_X10_readNumber : GoodIn TB (cw yX10_readNumber cX10_readNumber 5 (some .int)) := goodIn_c2 utk_X10_readNumber
theorem utb_49 : Cond.methodLink "ToneLines$WordReader" 67 yX10_readNumber ∈ TB := tbm (tc2 (List.mem_of_getElem? (i := 231) rfl)) rfl
theorem utb_50 : Cond.instanceMethod yX10_readNumber ∈ TB := tbm (tc2 (List.mem_of_getElem? (i := 233) rfl)) rfl
theorem utb_51 : Cond.selects "ToneLines$WordReader" yX10_readNumber yX10_readNumber ∈ TB := tbp (List.mem_of_getElem? (i := 3) rfl) rfl
theorem utb_52 : Cond.initialized "ToneLines$WordReader" ∈ TB := tbm (tc1 (List.mem_of_getElem? (i := 3) rfl)) rfl
theorem ugv_X10_67 : GoodIn TB (wsV RX10 67 RX10 yX10_readNumber (cw yX10_readNumber cX10_readNumber 5 (some .int))) := goodIn_4 utb_49 utb_50 utb_51 utb_52 ugc_X10_readNumber
theorem uhv_X10_readNumber : yX10_readNumber.cls = RX10 ∧ yX10_readNumber.cls ≠ "java/lang/invoke/MethodHandle" ∧ yX10_readNumber.cls ≠ "java/lang/invoke/VarHandle" ∧ (parseMethodDescriptor yX10_readNumber.desc).map (fun d => d.parameters.length) = some 1 := by decide +kernel
theorem udX10_readLines_51 : decode cX10_readLines 51 = .ok (.istore 4, 2) := dqU kk_54 (by decide +kernel)
theorem udX10_readLines_53 : decode cX10_readLines 53 = .ok (.iload 4, 2) := dqU kk_21 (by decide +kernel)
theorem udX10_readLines_55 : decode cX10_readLines 55 = .ok (.iconst (-1), 1) := dq0 kk_2 (by decide +kernel)
theorem udX10_readLines_56 : decode cX10_readLines 56 = .ok (.if_icmp .eq 10, 3) := dqT kk_159 (by decide +kernel)
theorem udX10_readLines_59 : decode cX10_readLines 59 = .ok (.aload_n 0, 1) := dq0 kk_42 (by decide +kernel)
theorem udX10_readLines_60 : decode cX10_readLines 60 = .ok (.invokevirtual 70, 3) := dqV kk_182 (by decide +kernel)
theorem utk_X10_readColon : Cond.code yX10_readColon cX10_readColon 1 (some .boolean) ∈ TB := tbm (tc3 (List.mem_of_getElem? (i := 1) rfl)) rfl
theorem ugc_X10_readColon : GoodIn TB (cw yX10_readColon cX10_readColon 1 (some .boolean)) := goodIn_c2 utk_X10_readColon
theorem utb_53 : Cond.methodLink "ToneLines$WordReader" 70 yX10_readColon ∈ TB := tbm (tc2 (List.mem_of_getElem? (i := 238) rfl)) rfl
theorem utb_54 : Cond.instanceMethod yX10_readColon ∈ TB := tbm (tc3 (List.mem_of_getElem? (i := 0) rfl)) rfl
theorem utb_55 : Cond.selects "ToneLines$WordReader" yX10_readColon yX10_readColon ∈ TB := tbp (List.mem_of_getElem? (i := 4) rfl) rfl
theorem ugv_X10_70 : GoodIn TB (wsV RX10 70 RX10 yX10_readColon (cw yX10_readColon cX10_readColon 1 (some .boolean))) := goodIn_4 utb_53 utb_54 utb_55 utb_52 ugc_X10_readColon
theorem uhv_X10_readColon : yX10_readColon.cls = RX10 ∧ yX10_readColon.cls ≠ "java/lang/invoke/MethodHandle" ∧ yX10_readColon.cls ≠ "java/lang/invoke/VarHandle" ∧ (parseMethodDescriptor yX10_readColon.desc).map (fun d => d.parameters.length) = some 0 := by decide +kernel
theorem udX10_readLines_63 : decode cX10_readLines 63 = .ok (.ifCond .ne 5, 3) := dqT kk_154 (by decide +kernel)
theorem udX10_readLines_68 : decode cX10_readLines 68 = .ok (.aload_n 0, 1) := dq0 kk_42 (by decide +kernel)
theorem udX10_readLines_69 : decode cX10_readLines 69 = .ok (.aload_n 1, 1) := dq0 kk_43 (by decide +kernel)
theorem udX10_readLines_70 : decode cX10_readLines 70 = .ok (.getfield 60, 3) := dqV kk_180 (by decide +kernel)
theorem udX10_readLines_73 : decode cX10_readLines 73 = .ok (.invokevirtual 67, 3) := dqV kk_182 (by decide +kernel)
theorem udX10_readLines_76 : decode cX10_readLines 76 = .ok (.istore 5, 2) := dqU kk_54 (by decide +kernel)
theorem udX10_readLines_78 : decode cX10_readLines 78 = .ok (.iload 5, 2) := dqU kk_21 (by decide +kernel)
theorem udX10_readLines_80 : decode cX10_readLines 80 = .ok (.iconst (-1), 1) := dq0 kk_2 (by decide +kernel)
theorem udX10_readLines_81 : decode cX10_readLines 81 = .ok (.if_icmp .ne 5, 3) := dqT kk_160 (by decide +kernel)
theorem udX10_readLines_86 : decode cX10_readLines 86 = .ok (.aload_n 1, 1) := dq0 kk_43 (by decide +kernel)
theorem udX10_readLines_87 : decode cX10_readLines 87 = .ok (.iload 4, 2) := dqU kk_21 (by decide +kernel)
theorem udX10_readLines_89 : decode cX10_readLines 89 = .ok (.iload 5, 2) := dqU kk_21 (by decide +kernel)
theorem udX10_readLines_91 : decode cX10_readLines 91 = .ok (.invokevirtual 74, 3) := dqV kk_182 (by decide +kernel)
theorem utk_X9_isOpen : Cond.code yX9_isOpen cX9_isOpen 3 (some .boolean) ∈ TB := tk_X9_isOpen
theorem ugc_X9_isOpen : GoodIn TB (cw yX9_isOpen cX9_isOpen 3 (some .boolean)) := goodIn_c2 utk_X9_isOpen
theorem utb_56 : Cond.methodLink "ToneLines$WordReader" 74 yX9_isOpen ∈ TB := tbm (tc3 (List.mem_of_getElem? (i := 2) rfl)) rfl
theorem utb_57 : Cond.instanceMethod yX9_isOpen ∈ TB := tb_67
theorem utb_58 : Cond.selects "ToneLines$Word" yX9_isOpen yX9_isOpen ∈ TB := tb_68
theorem ugv_X10_74 : GoodIn TB (wsV RX10 74 RX9 yX9_isOpen (cw yX9_isOpen cX9_isOpen 3 (some .boolean))) := goodIn_4 utb_56 utb_57 utb_58 utb_44 ugc_X9_isOpen
theorem uhv_X9_isOpen : yX9_isOpen.cls = RX9 ∧ yX9_isOpen.cls ≠ "java/lang/invoke/MethodHandle" ∧ yX9_isOpen.cls ≠ "java/lang/invoke/VarHandle" ∧ (parseMethodDescriptor yX9_isOpen.desc).map (fun d => d.parameters.length) = some 2 := hv_X9_isOpen
theorem udX10_readLines_94 : decode cX10_readLines 94 = .ok (.ifCond .ne 10, 3) := dqT kk_154 (by decide +kernel)
theorem udX10_readLines_104 : decode cX10_readLines 104 = .ok (.aload_n 1, 1) := dq0 kk_43 (by decide +kernel)
theorem udX10_readLines_105 : decode cX10_readLines 105 = .ok (.getfield 78, 3) := dqV kk_180 (by decide +kernel)
theorem utb_59 : Cond.fieldLink "ToneLines$WordReader" 78 "ToneLines$Word" "lines" "[I" ∈ TB := tbm (tc1 (List.mem_of_getElem? (i := 147) rfl)) rfl
theorem udX10_readLines_108 : decode cX10_readLines 108 = .ok (.iload 4, 2) := dqU kk_21 (by decide +kernel)
theorem udX10_readLines_110 : decode cX10_readLines 110 = .ok (.dup2, 1) := dq0 kk_92 (by decide +kernel)
theorem udX10_readLines_111 : decode cX10_readLines 111 = .ok (.iaload, 1) := dq0 kk_46 (by decide +kernel)
theorem udX10_readLines_112 : decode cX10_readLines 112 = .ok (.iconst 1, 1) := dq0 kk_4 (by decide +kernel)
theorem udX10_readLines_113 : decode cX10_readLines 113 = .ok (.iload 5, 2) := dqU kk_21 (by decide +kernel)
theorem udX10_readLines_115 : decode cX10_readLines 115 = .ok (.ishl, 1) := dq0 kk_120 (by decide +kernel)
theorem udX10_readLines_116 : decode cX10_readLines 116 = .ok (.ior, 1) := dq0 kk_128 (by decide +kernel)
theorem udX10_readLines_117 : decode cX10_readLines 117 = .ok (.iastore, 1) := dq0 kk_79 (by decide +kernel)
theorem udX10_readLines_118 : decode cX10_readLines 118 = .ok (.aload_n 0, 1) := dq0 kk_42 (by decide +kernel)
theorem udX10_readLines_119 : decode cX10_readLines 119 = .ok (.getfield 9, 3) := dqV kk_180 (by decide +kernel)
theorem udX10_readLines_122 : decode cX10_readLines 122 = .ok (.aload_n 0, 1) := dq0 kk_42 (by decide +kernel)
theorem udX10_readLines_123 : decode cX10_readLines 123 = .ok (.getfield 15, 3) := dqV kk_180 (by decide +kernel)
theorem udX10_readLines_126 : decode cX10_readLines 126 = .ok (.getfield 40, 3) := dqV kk_180 (by decide +kernel)
theorem udX10_readLines_129 : decode cX10_readLines 129 = .ok (.if_icmp .ge 21, 3) := dqT kk_162 (by decide +kernel)
theorem udX10_readLines_150 : decode cX10_readLines 150 = .ok (.aload_n 0, 1) := dq0 kk_42 (by decide +kernel)
theorem udX10_readLines_151 : decode cX10_readLines 151 = .ok (.aload_n 0, 1) := dq0 kk_42 (by decide +kernel)
theorem udX10_readLines_152 : decode cX10_readLines 152 = .ok (.getfield 15, 3) := dqV kk_180 (by decide +kernel)
theorem udX10_readLines_155 : decode cX10_readLines 155 = .ok (.aload_n 0, 1) := dq0 kk_42 (by decide +kernel)
theorem udX10_readLines_156 : decode cX10_readLines 156 = .ok (.getfield 9, 3) := dqV kk_180 (by decide +kernel)
theorem udX10_readLines_159 : decode cX10_readLines 159 = .ok (.invokevirtual 34, 3) := dqV kk_182 (by decide +kernel)
theorem udX10_readLines_162 : decode cX10_readLines 162 = .ok (.putfield 9, 3) := dqV kk_181 (by decide +kernel)
theorem udX10_readLines_165 : decode cX10_readLines 165 = .ok (.iinc 2 1, 3) := dqI kk_132 (by decide +kernel)
theorem udX10_readLines_168 : decode cX10_readLines 168 = .ok (.goto (-151), 3) := dqT kk_167 (by decide +kernel)
theorem udX10_readLines_132 : decode cX10_readLines 132 = .ok (.aload_n 0, 1) := dq0 kk_42 (by decide +kernel)
theorem udX10_readLines_133 : decode cX10_readLines 133 = .ok (.getfield 15, 3) := dqV kk_180 (by decide +kernel)
theorem udX10_readLines_136 : decode cX10_readLines 136 = .ok (.aload_n 0, 1) := dq0 kk_42 (by decide +kernel)
theorem udX10_readLines_137 : decode cX10_readLines 137 = .ok (.getfield 9, 3) := dqV kk_180 (by decide +kernel)
theorem udX10_readLines_140 : decode cX10_readLines 140 = .ok (.invokevirtual 43, 3) := dqV kk_182 (by decide +kernel)
theorem udX10_readLines_143 : decode cX10_readLines 143 = .ok (.bipush 32, 2) := dqS kk_16 (by decide +kernel)
theorem udX10_readLines_145 : decode cX10_readLines 145 = .ok (.if_icmp .eq 5, 3) := dqT kk_159 (by decide +kernel)
theorem udX10_readLines_148 : decode cX10_readLines 148 = .ok (.iconst 0, 1) := dq0 kk_3 (by decide +kernel)
theorem udX10_readLines_149 : decode cX10_readLines 149 = .ok (.ireturn, 1) := dq0 kk_172 (by decide +kernel)
theorem udX10_readLines_97 : decode cX10_readLines 97 = .ok (.aload_n 0, 1) := dq0 kk_42 (by decide +kernel)
theorem udX10_readLines_98 : decode cX10_readLines 98 = .ok (.iload_n 3, 1) := dq0 kk_29 (by decide +kernel)
theorem udX10_readLines_99 : decode cX10_readLines 99 = .ok (.putfield 9, 3) := dqV kk_181 (by decide +kernel)
theorem udX10_readLines_102 : decode cX10_readLines 102 = .ok (.iconst 0, 1) := dq0 kk_3 (by decide +kernel)
theorem udX10_readLines_103 : decode cX10_readLines 103 = .ok (.ireturn, 1) := dq0 kk_172 (by decide +kernel)
theorem udX10_readLines_84 : decode cX10_readLines 84 = .ok (.iconst 0, 1) := dq0 kk_3 (by decide +kernel)
theorem udX10_readLines_85 : decode cX10_readLines 85 = .ok (.ireturn, 1) := dq0 kk_172 (by decide +kernel)
theorem udX10_readLines_66 : decode cX10_readLines 66 = .ok (.iconst 0, 1) := dq0 kk_3 (by decide +kernel)
theorem udX10_readLines_67 : decode cX10_readLines 67 = .ok (.ireturn, 1) := dq0 kk_172 (by decide +kernel)
set_option maxRecDepth 4000 in
theorem lp_X10_lines {p : Program} {l : Launch} {e : Env} {s : State} {m : MethodId} {args : Array Value} {below : List Frame} {meth : Method} {c : Code} {D : va_G} {B : Nat} {cy : Nat → ClassId}  {M : Mem} {R : Room} {T : Nat → Nat} {tn b : Nat} {y : Sy} {o : Wo} (F : CallFix p m c cX10_readLines 6 s args TB RX10) (hr : meth.sig.returnType = (some .boolean)) (hlocks : meth.locks = false) (hR1 : 2 ≤ R.frames) (hR2 : 48 ≤ R.locals) (hT : okT T tn) (kk : ∀ (i : Nat) (cn : Nat) (Nm : Mem) (o1 : Wo) (fu : Nat) (H : Heap) (locs : List Loc) (ls : Array Slot), (rlnF T tn y.1 301 (sk T tn b) o = some o1) → (DS Nm T tn i y o1) → (FrD Nm M) → Wd D B cy s s.heap Nm H locs → lv_has ls 6 [(0, .ref (B + 3)), (1, .ref (B + 143))] → W p l e R s m args below meth c H locs 0 0 (MQ below (va_Qi (fun r M1 => RLQ T tn (rlnF T tn y.1 301 (sk T tn b) o) y M r M1) (fun M2 t2 => Wp D B cy M2 t2) (fun q2 => B ≤ q2)) args s 0 0 (fun q2 => B ≤ q2)) (F0 m 171 ls [])) : ∀ (f : Nat) (i : Nat) (cn : Nat) (Nm : Mem) (o1 : Wo) (fu : Nat), (DS Nm T tn i y o1) → (rlnF T tn y.1 fu i o1 = rlnF T tn y.1 301 (sk T tn b) o) → (FrD Nm M) → (tn ≤ i + fu) → (cn ≤ i) → (tn ≤ i + f) → ∀ (H : Heap) (locs : List Loc) (ls : Array Slot), Wd D B cy s s.heap Nm H locs → lv_has ls 6 [(2, .int (zI (cn : Int))), (0, .ref (B + 3)), (1, .ref (B + 143))] → W p l e R s m args below meth c H locs 0 0 (MQ below (va_Qi (fun r M1 => RLQ T tn (rlnF T tn y.1 301 (sk T tn b) o) y M r M1) (fun M2 t2 => Wp D B cy M2 t2) (fun q2 => B ≤ q2)) args s 0 0 (fun q2 => B ≤ q2)) (F0 m 17 ls []) := by
  have hx := F.1
  have hb := F.2.1
  have hN := hT.1
  intro f
  induction f with
  | zero =>
    intro i cn Nm o1 fu i0 i1 i2 i3 i4 hf H locs ls w hl
    have hiN := i0.2.2.1
    have hq12 := i0.2.2.2.2.1.2.1
    have hn12 := i0.2.2.2.2.1.1
    refine lv_aload_n hx hb udX10_readLines_17 rfl (lv_at hl 1 rfl) ?_
    refine f_10_1 F w (a := 3) rfl utb_26 udX10_readLines_18 ?_
    refine r_val (v := (zI (i : Int))) (i0.2.1) ?_
    refine lv_aload_n hx hb udX10_readLines_21 rfl (lv_at hl 1 rfl) ?_
    refine f_10_0 F w (a := 3) rfl utb_25 udX10_readLines_22 ?_
    refine f_8_1 F w (a := 1) rfl utb_36 udX10_readLines_25 ?_
    refine r_val (v := (zI (tn : Int))) (i0.1.1) ?_
    refine z_icmp_ge (tgt := 171) hx hb (by omega) (by omega) udX10_readLines_28 (by decide) (fun c1 => ?_) (fun c1 => False.elim (by omega))
    exact kk i cn Nm o1 fu _ _ ls (i1.symm.trans (rl_e (by omega))) i0 i2 w (lv_sub hl [1, 2] rfl)
  | succ f ih =>
    intro i cn Nm o1 fu i0 i1 i2 i3 i4 hf H locs ls w hl
    have hiN := i0.2.2.1
    have hq12 := i0.2.2.2.2.1.2.1
    have hn12 := i0.2.2.2.2.1.1
    refine lv_aload_n hx hb udX10_readLines_17 rfl (lv_at hl 1 rfl) ?_
    refine f_10_1 F w (a := 3) rfl utb_26 udX10_readLines_18 ?_
    refine r_val (v := (zI (i : Int))) (i0.2.1) ?_
    refine lv_aload_n hx hb udX10_readLines_21 rfl (lv_at hl 1 rfl) ?_
    refine f_10_0 F w (a := 3) rfl utb_25 udX10_readLines_22 ?_
    refine f_8_1 F w (a := 1) rfl utb_36 udX10_readLines_25 ?_
    refine r_val (v := (zI (tn : Int))) (i0.1.1) ?_
    refine z_icmp_ge (tgt := 171) hx hb (by omega) (by omega) udX10_readLines_28 (by decide) (fun c1 => ?_) (fun c1 => ?_)
    · exact kk i cn Nm o1 fu _ _ ls (i1.symm.trans (rl_e (by omega))) i0 i2 w (lv_sub hl [1, 2] rfl)
    · refine lv_iload_n hx hb udX10_readLines_31 rfl (lv_at hl 0 rfl) ?_
      refine lv_sipush (v := zI 300) hx hb udX10_readLines_32 (by decide) ?_
      refine z_icmp_ge (tgt := 171) hx hb (by omega) (by omega) udX10_readLines_35 (by decide) (fun c2 => False.elim (by omega)) (fun c2 => ?_)
      refine lv_aload_n hx hb udX10_readLines_38 rfl (lv_at hl 1 rfl) ?_
      refine f_10_1 F w (a := 3) rfl utb_26 udX10_readLines_39 ?_
      refine r_val (v := (zI (i : Int))) (i0.2.1) ?_
      refine lv_istore_n (lv' := [(3, .int (zI (i : Int))), (2, .int (zI (cn : Int))), (0, .ref (B + 3)), (1, .ref (B + 143))]) hx hb udX10_readLines_42 rfl hl (by decide) rfl (fun ls hl => ?_)
      refine lv_aload_n hx hb udX10_readLines_43 rfl (lv_at hl 2 rfl) ?_
      refine lv_aload_n hx hb udX10_readLines_44 rfl (lv_at hl 3 rfl) ?_
      refine f_9_0 F w (a := 143) rfl utb_40 udX10_readLines_45 ?_
      have hn2 := i0.2.2.2.2.1.1
      refine r_val (v := (zI ((o1.1 : Nat) : Int))) (i0.2.2.2.1.1) ?_
      refine k_Vi F w (As := [.int (zI ((o1.1 : Nat) : Int))]) (rest := []) (a := 3) (kd_lt (a := 3) (show kd 3 = (10, 0, 0) from rfl) (by decide)) (sh_10 rfl _ _) rfl (s_X10_readNumber hT i0 (bl := o1.1) (by omega)) ugv_X10_67 uhv_X10_readNumber ⟨(by omega), (by omega)⟩ hl.1 rfl (Nat.le_of_ble_eq_true rfl) ⟨Nat.zero_le _, Nat.zero_le _⟩ udX10_readLines_48 (fun r Ma4 H locs hp w => ?_)
      rcases hp with ⟨v3, jv3, ev3, rfl, hMe, hv3, gv3, lv3⟩ | ⟨ev3, rfl, hMe⟩
      · rw [hMe] at w
        refine lv_istore (lv' := [(4, .int (zI (v3 : Int))), (3, .int (zI (i : Int))), (2, .int (zI (cn : Int))), (0, .ref (B + 3)), (1, .ref (B + 143))]) hx hb udX10_readLines_51 hl (by decide) rfl (fun ls hl => ?_)
        refine lv_iload hx hb udX10_readLines_53 (lv_at hl 0 rfl) ?_
        refine lv_iconst (v := zI (-1)) hx hb udX10_readLines_55 rfl ?_
        refine z_icmp_eq (tgt := 66) hx hb (by omega) (by omega) udX10_readLines_56 (by decide) (fun c5 => False.elim (by omega)) (fun c5 => ?_)
        refine lv_aload_n hx hb udX10_readLines_59 rfl (lv_at hl 3 rfl) ?_
        have hD6 : DS (st Nm 3 1 (zI (jv3 : Int))) T tn jv3 y o1 := DS.at i0 (by omega)
        have fD6 : FrD (st Nm 3 1 (zI (jv3 : Int))) M := FrD.tr i2 FrD.s
        refine k_Vi F w (As := []) (rest := []) (a := 3) (kd_lt (a := 3) (show kd 3 = (10, 0, 0) from rfl) (by decide)) (sh_10 rfl _ _) rfl (s_X10_readColon hT hD6) ugv_X10_70 uhv_X10_readColon ⟨(by omega), (by omega)⟩ hl.1 rfl (Nat.le_of_ble_eq_true rfl) ⟨Nat.zero_le _, Nat.zero_le _⟩ udX10_readLines_60 (fun r Ma8 H locs hp w => ?_)
        rcases hp with ⟨ek7, lk7, rfl, hMe⟩ | ⟨ek7, rfl, hMe⟩
        · have hkk7 := sk_le (T := T) (N := tn) (i := jv3) (by omega)
          have hmk7 := sk_le (T := T) (N := tn) (i := sk T tn jv3 + 1) (by omega)
          rw [hMe] at w
          refine z_if_ne (tgt := 68) hx hb (by omega) udX10_readLines_63 (by decide) (fun c9 => ?_) (fun c9 => False.elim (by omega))
          refine lv_aload_n hx hb udX10_readLines_68 rfl (lv_at hl 3 rfl) ?_
          refine lv_aload_n hx hb udX10_readLines_69 rfl (lv_at hl 4 rfl) ?_
          refine f_9_1 F w (a := 143) rfl utb_45 udX10_readLines_70 ?_
          have hq9 := hD6.2.2.2.2.1.2.1
          refine r_val (v := (zI ((y.1 : Nat) : Int))) ((st_ne (Or.inl (by omega))).trans ((st_ne (Or.inl (by omega))).trans (hD6.2.2.2.1.2.1))) ?_
          have hD10 : DS (st (st Nm 3 1 (zI (jv3 : Int))) 3 1 (zI (((sk T tn jv3) : Nat) : Int))) T tn (sk T tn jv3) y o1 := DS.at hD6 (by omega)
          have fD10 : FrD (st (st Nm 3 1 (zI (jv3 : Int))) 3 1 (zI (((sk T tn jv3) : Nat) : Int))) M := FrD.tr fD6 FrD.s
          have hD11 : DS (st (st (st Nm 3 1 (zI (jv3 : Int))) 3 1 (zI (((sk T tn jv3) : Nat) : Int))) 3 1 (zI (((sk T tn (sk T tn jv3 + 1)) : Nat) : Int))) T tn (sk T tn (sk T tn jv3 + 1)) y o1 := DS.at hD10 (by omega)
          have fD11 : FrD (st (st (st Nm 3 1 (zI (jv3 : Int))) 3 1 (zI (((sk T tn jv3) : Nat) : Int))) 3 1 (zI (((sk T tn (sk T tn jv3 + 1)) : Nat) : Int))) M := FrD.tr fD10 FrD.s
          refine k_Vi F w (As := [.int (zI ((y.1 : Nat) : Int))]) (rest := []) (a := 3) (kd_lt (a := 3) (show kd 3 = (10, 0, 0) from rfl) (by decide)) (sh_10 rfl _ _) rfl (s_X10_readNumber hT hD11 (bl := y.1) (by omega)) ugv_X10_67 uhv_X10_readNumber ⟨(by omega), (by omega)⟩ hl.1 rfl (Nat.le_of_ble_eq_true rfl) ⟨Nat.zero_le _, Nat.zero_le _⟩ udX10_readLines_73 (fun r Ma13 H locs hp w => ?_)
          rcases hp with ⟨v12, jv12, ev12, rfl, hMe, hv12, gv12, lv12⟩ | ⟨ev12, rfl, hMe⟩
          · rw [hMe] at w
            refine lv_istore (lv' := [(5, .int (zI (v12 : Int))), (4, .int (zI (v3 : Int))), (3, .int (zI (i : Int))), (2, .int (zI (cn : Int))), (0, .ref (B + 3)), (1, .ref (B + 143))]) hx hb udX10_readLines_76 hl (by decide) rfl (fun ls hl => ?_)
            refine lv_iload hx hb udX10_readLines_78 (lv_at hl 0 rfl) ?_
            refine lv_iconst (v := zI (-1)) hx hb udX10_readLines_80 rfl ?_
            refine z_icmp_ne (tgt := 86) hx hb (by omega) (by omega) udX10_readLines_81 (by decide) (fun c14 => ?_) (fun c14 => False.elim (by omega))
            refine lv_aload_n hx hb udX10_readLines_86 rfl (lv_at hl 5 rfl) ?_
            refine lv_iload hx hb udX10_readLines_87 (lv_at hl 1 rfl) ?_
            refine lv_iload hx hb udX10_readLines_89 (lv_at hl 0 rfl) ?_
            have hD15 : DS (st (st (st (st Nm 3 1 (zI (jv3 : Int))) 3 1 (zI (((sk T tn jv3) : Nat) : Int))) 3 1 (zI (((sk T tn (sk T tn jv3 + 1)) : Nat) : Int))) 3 1 (zI (jv12 : Int))) T tn jv12 y o1 := DS.at hD11 (by omega)
            have fD15 : FrD (st (st (st (st Nm 3 1 (zI (jv3 : Int))) 3 1 (zI (((sk T tn jv3) : Nat) : Int))) 3 1 (zI (((sk T tn (sk T tn jv3 + 1)) : Nat) : Int))) 3 1 (zI (jv12 : Int))) M := FrD.tr fD11 FrD.s
            refine k_Vi F w (As := [.int (zI (v3 : Int)), .int (zI (v12 : Int))]) (rest := []) (a := 143) (kd_lt (a := 143) (show kd 143 = (9, 0, 0) from rfl) (by decide)) (sh_9 rfl _ _) rfl (s_X9_isOpen (a := 143) rfl hD15.2.2.2.1 hD15.2.2.2.wf (t := (v3 : Int)) (y := (v12 : Int)) (by omega) (by omega)) ugv_X10_74 uhv_X9_isOpen ⟨(by omega), (by omega)⟩ hl.1 rfl (Nat.le_of_ble_eq_true rfl) ⟨Nat.zero_le _, Nat.zero_le _⟩ udX10_readLines_91 (fun r Ma16 H locs hp w => ?_)
            rcases hp with ⟨⟨⟨k9, j9, e91, e92, hk9, hj9, ho9⟩, rfl⟩ | ⟨ho9, rfl⟩, hMe⟩
            · obtain rfl : v3 = k9 := by omega
              obtain rfl : v12 = j9 := by omega
              rw [hMe] at w
              refine z_if_ne (tgt := 104) hx hb (by omega) udX10_readLines_94 (by decide) (fun c17 => ?_) (fun c17 => False.elim (by omega))
              refine lv_aload_n hx hb udX10_readLines_104 rfl (lv_at hl 5 rfl) ?_
              refine f_9_5 F w (a := 143) rfl utb_59 udX10_readLines_105 ?_
              refine lv_iload hx hb udX10_readLines_108 (lv_at hl 1 rfl) ?_
              refine lv_dup2_11 hx hb udX10_readLines_110 rfl rfl ?_
              refine g_iald F w (a := 145) rfl (j := v3) (ix_n (by omega)) (by omega) udX10_readLines_111 ?_
              have hL17 := (hD15.2.2.2.wf.2.2.2.2 v3 (by omega)).2
              refine r_val (v := (zI (((o1.2.2 v3) : Nat) : Int))) (hD15.2.2.2.1.2.2.2.2.2 v3 (by omega)) ?_
              refine lv_iconst (v := zI 1) hx hb udX10_readLines_112 rfl ?_
              refine lv_iload hx hb udX10_readLines_113 (lv_at hl 0 rfl) ?_
              refine lv_ishl hx hb udX10_readLines_115 ?_
              refine r_val (v := (zI (((2 ^ v12) : Nat) : Int))) (zb_shl (n := v12) (by omega)) ?_
              have q18 := p2_b (n := v12) (by omega)
              refine lv_ior hx hb udX10_readLines_116 ?_
              refine r_val (v := (zI ((((o1.2.2 v3) ||| (2 ^ v12)) : Nat) : Int))) (zb_or (o1.2.2 v3) (2 ^ v12)) ?_
              have q19 := or_lt12 (a := (o1.2.2 v3)) (b := (2 ^ v12)) (by omega) (by omega)
              refine g_iast F w (a := 145) rfl (j := v3) (ix_n (by omega)) (by omega) udX10_readLines_117 (fun H locs w => ?_)
              have hD20 : DS (st (st (st (st (st Nm 3 1 (zI (jv3 : Int))) 3 1 (zI (((sk T tn jv3) : Nat) : Int))) 3 1 (zI (((sk T tn (sk T tn jv3 + 1)) : Nat) : Int))) 3 1 (zI (jv12 : Int))) 145 v3 (zI ((((o1.2.2 v3) ||| (2 ^ v12)) : Nat) : Int))) T tn jv12 y (lnO o1 v3 v12) := DS.w hD15 (wlineF Fr3.rf) ⟨wlineW hD15.2.2.2.1, okW_ln hD15.2.2.2.2.1 (by omega) (by omega), hD15.2.2.2.2.2⟩
              have fD20 : FrD (st (st (st (st (st Nm 3 1 (zI (jv3 : Int))) 3 1 (zI (((sk T tn jv3) : Nat) : Int))) 3 1 (zI (((sk T tn (sk T tn jv3 + 1)) : Nat) : Int))) 3 1 (zI (jv12 : Int))) 145 v3 (zI ((((o1.2.2 v3) ||| (2 ^ v12)) : Nat) : Int))) M := FrD.tr fD15 (FrD.w (wlineF Fr3.rf))
              refine lv_aload_n hx hb udX10_readLines_118 rfl (lv_at hl 4 rfl) ?_
              refine f_10_1 F w (a := 3) rfl utb_26 udX10_readLines_119 ?_
              refine r_val (v := (zI (jv12 : Int))) (hD20.2.1) ?_
              refine lv_aload_n hx hb udX10_readLines_122 rfl (lv_at hl 4 rfl) ?_
              refine f_10_0 F w (a := 3) rfl utb_25 udX10_readLines_123 ?_
              refine f_8_1 F w (a := 1) rfl utb_36 udX10_readLines_126 ?_
              refine r_val (v := (zI (tn : Int))) (hD20.1.1) ?_
              refine z_icmp_ge (tgt := 150) hx hb (by omega) (by omega) udX10_readLines_129 (by decide) (fun c21 => ?_) (fun c21 => ?_)
              · refine lv_aload_n hx hb udX10_readLines_150 rfl (lv_at hl 4 rfl) ?_
                refine lv_aload_n hx hb udX10_readLines_151 rfl (lv_at hl 4 rfl) ?_
                refine f_10_0 F w (a := 3) rfl utb_25 udX10_readLines_152 ?_
                refine lv_aload_n hx hb udX10_readLines_155 rfl (lv_at hl 4 rfl) ?_
                refine f_10_1 F w (a := 3) rfl utb_26 udX10_readLines_156 ?_
                refine r_val (v := (zI (jv12 : Int))) (hD20.2.1) ?_
                refine x_Vi F w (As := [.int (zI (jv12 : Int))]) (rest := [.ref (B + 3)]) (a := 1) (kd_lt (a := 1) (show kd 1 = (8, 0, 0) from rfl) (by decide)) (sh_8 rfl _ _) rfl (s_X8_skipBlanks hT hD20.1 (i := jv12) (by omega)) ugv_X10_34 uhv_X8_skipBlanks ⟨(by omega), (by omega)⟩ hl.1 rfl (Nat.le_of_ble_eq_true rfl) ⟨Nat.zero_le _, Nat.zero_le _⟩ udX10_readLines_159 (fun H locs w => ?_)
                have hk21 := sk_le (T := T) (N := tn) (i := jv12) (by omega)
                refine u_10_1 F w (a := 3) rfl utb_26 udX10_readLines_162 (fun H locs w => ?_)
                refine z_iinc (v := (((cn + 1) : Nat) : Int)) (lv' := [(2, .int (zI (((cn + 1) : Nat) : Int))), (5, .int (zI (v12 : Int))), (4, .int (zI (v3 : Int))), (3, .int (zI (i : Int))), (0, .ref (B + 3)), (1, .ref (B + 143))]) hx hb udX10_readLines_165 hl (k := 3) rfl (by omega) (by decide) rfl (fun ls hl => ?_)
                refine lv_goto (tgt := 17) hx hb udX10_readLines_168 (by decide) ?_
                have hD23 : DS (st (st (st (st (st (st Nm 3 1 (zI (jv3 : Int))) 3 1 (zI (((sk T tn jv3) : Nat) : Int))) 3 1 (zI (((sk T tn (sk T tn jv3 + 1)) : Nat) : Int))) 3 1 (zI (jv12 : Int))) 145 v3 (zI ((((o1.2.2 v3) ||| (2 ^ v12)) : Nat) : Int))) 3 1 (zI (((sk T tn jv12) : Nat) : Int))) T tn (sk T tn jv12) y (lnO o1 v3 v12) := DS.at hD20 (by omega)
                have fD23 : FrD (st (st (st (st (st (st Nm 3 1 (zI (jv3 : Int))) 3 1 (zI (((sk T tn jv3) : Nat) : Int))) 3 1 (zI (((sk T tn (sk T tn jv3 + 1)) : Nat) : Int))) 3 1 (zI (jv12 : Int))) 145 v3 (zI ((((o1.2.2 v3) ||| (2 ^ v12)) : Nat) : Int))) 3 1 (zI (((sk T tn jv12) : Nat) : Int))) M := FrD.tr fD20 FrD.s
                exact ih (sk T tn jv12) (cn + 1) (st (st (st (st (st (st Nm 3 1 (zI (jv3 : Int))) 3 1 (zI (((sk T tn jv3) : Nat) : Int))) 3 1 (zI (((sk T tn (sk T tn jv3 + 1)) : Nat) : Int))) 3 1 (zI (jv12 : Int))) 145 v3 (zI ((((o1.2.2 v3) ||| (2 ^ v12)) : Nat) : Int))) 3 1 (zI (((sk T tn jv12) : Nat) : Int))) (lnO o1 v3 v12) (fu - 1) hD23 ((rl_y (by omega) (ln_y ev3 ek7 ev12 ho9 (fun h9 => by have h8 := h9.1; have h7 := h9.2; omega)) (by omega)).symm.trans i1) fD23 (by omega) (by omega) (by omega) _ _ ls w (lv_sub hl [0, 4, 5] rfl)
              · refine lv_aload_n hx hb udX10_readLines_132 rfl (lv_at hl 4 rfl) ?_
                refine f_10_0 F w (a := 3) rfl utb_25 udX10_readLines_133 ?_
                refine lv_aload_n hx hb udX10_readLines_136 rfl (lv_at hl 4 rfl) ?_
                refine f_10_1 F w (a := 3) rfl utb_26 udX10_readLines_137 ?_
                refine r_val (v := (zI (jv12 : Int))) (hD20.2.1) ?_
                refine x_Vi F w (As := [.int (zI (jv12 : Int))]) (rest := []) (a := 1) (kd_lt (a := 1) (show kd 1 = (8, 0, 0) from rfl) (by decide)) (sh_8 rfl _ _) rfl (s_X8_signAt hT hD20.1 (z := (jv12 : Int)) (by omega)) ugv_X10_43 uhv_X8_signAt ⟨(by omega), (by omega)⟩ hl.1 rfl (Nat.le_of_ble_eq_true rfl) ⟨Nat.zero_le _, Nat.zero_le _⟩ udX10_readLines_140 (fun H locs w => ?_)
                have hg23 := sg_rg hT (jv12 : Int)
                have hh23 := sg_c (T := T) (N := tn) jv12
                have ht23 := hT.2 jv12
                refine lv_bipush (v := zI 32) hx hb udX10_readLines_143 (by decide) ?_
                refine z_icmp_eq (tgt := 150) hx hb (by omega) (by omega) udX10_readLines_145 (by decide) (fun c25 => ?_) (fun c25 => ?_)
                · refine lv_aload_n hx hb udX10_readLines_150 rfl (lv_at hl 4 rfl) ?_
                  refine lv_aload_n hx hb udX10_readLines_151 rfl (lv_at hl 4 rfl) ?_
                  refine f_10_0 F w (a := 3) rfl utb_25 udX10_readLines_152 ?_
                  refine lv_aload_n hx hb udX10_readLines_155 rfl (lv_at hl 4 rfl) ?_
                  refine f_10_1 F w (a := 3) rfl utb_26 udX10_readLines_156 ?_
                  refine r_val (v := (zI (jv12 : Int))) (hD20.2.1) ?_
                  refine x_Vi F w (As := [.int (zI (jv12 : Int))]) (rest := [.ref (B + 3)]) (a := 1) (kd_lt (a := 1) (show kd 1 = (8, 0, 0) from rfl) (by decide)) (sh_8 rfl _ _) rfl (s_X8_skipBlanks hT hD20.1 (i := jv12) (by omega)) ugv_X10_34 uhv_X8_skipBlanks ⟨(by omega), (by omega)⟩ hl.1 rfl (Nat.le_of_ble_eq_true rfl) ⟨Nat.zero_le _, Nat.zero_le _⟩ udX10_readLines_159 (fun H locs w => ?_)
                  have hk25 := sk_le (T := T) (N := tn) (i := jv12) (by omega)
                  refine u_10_1 F w (a := 3) rfl utb_26 udX10_readLines_162 (fun H locs w => ?_)
                  refine z_iinc (v := (((cn + 1) : Nat) : Int)) (lv' := [(2, .int (zI (((cn + 1) : Nat) : Int))), (5, .int (zI (v12 : Int))), (4, .int (zI (v3 : Int))), (3, .int (zI (i : Int))), (0, .ref (B + 3)), (1, .ref (B + 143))]) hx hb udX10_readLines_165 hl (k := 3) rfl (by omega) (by decide) rfl (fun ls hl => ?_)
                  refine lv_goto (tgt := 17) hx hb udX10_readLines_168 (by decide) ?_
                  have hD27 : DS (st (st (st (st (st (st Nm 3 1 (zI (jv3 : Int))) 3 1 (zI (((sk T tn jv3) : Nat) : Int))) 3 1 (zI (((sk T tn (sk T tn jv3 + 1)) : Nat) : Int))) 3 1 (zI (jv12 : Int))) 145 v3 (zI ((((o1.2.2 v3) ||| (2 ^ v12)) : Nat) : Int))) 3 1 (zI (((sk T tn jv12) : Nat) : Int))) T tn (sk T tn jv12) y (lnO o1 v3 v12) := DS.at hD20 (by omega)
                  have fD27 : FrD (st (st (st (st (st (st Nm 3 1 (zI (jv3 : Int))) 3 1 (zI (((sk T tn jv3) : Nat) : Int))) 3 1 (zI (((sk T tn (sk T tn jv3 + 1)) : Nat) : Int))) 3 1 (zI (jv12 : Int))) 145 v3 (zI ((((o1.2.2 v3) ||| (2 ^ v12)) : Nat) : Int))) 3 1 (zI (((sk T tn jv12) : Nat) : Int))) M := FrD.tr fD20 FrD.s
                  exact ih (sk T tn jv12) (cn + 1) (st (st (st (st (st (st Nm 3 1 (zI (jv3 : Int))) 3 1 (zI (((sk T tn jv3) : Nat) : Int))) 3 1 (zI (((sk T tn (sk T tn jv3 + 1)) : Nat) : Int))) 3 1 (zI (jv12 : Int))) 145 v3 (zI ((((o1.2.2 v3) ||| (2 ^ v12)) : Nat) : Int))) 3 1 (zI (((sk T tn jv12) : Nat) : Int))) (lnO o1 v3 v12) (fu - 1) hD27 ((rl_y (by omega) (ln_y ev3 ek7 ev12 ho9 (fun h9 => by have h8 := h9.1; have h7 := h9.2; omega)) (by omega)).symm.trans i1) fD27 (by omega) (by omega) (by omega) _ _ ls w (lv_sub hl [0, 4, 5] rfl)
                · refine lv_iconst (v := zI 0) hx hb udX10_readLines_148 rfl ?_
                  exact e_z F w hr hlocks (nar_z (by omega)) (Or.inr ⟨i1.symm.trans (rl_n (by omega) (ln_4 ev3 ev12 (fun h9 => h9.2 ⟨by omega, by omega⟩)) (by omega)), rfl, hD20.o, fD20⟩) udX10_readLines_149
            · replace ho9 : ¬ openP o1.1 o1.2.2 v3 v12 := fun h9 => ho9 ⟨v3, v12, rfl, rfl, by omega, by omega, h9⟩
              rw [hMe] at w
              refine z_if_ne (tgt := 104) hx hb (by omega) udX10_readLines_94 (by decide) (fun c28 => False.elim (by omega)) (fun c28 => ?_)
              refine lv_aload_n hx hb udX10_readLines_97 rfl (lv_at hl 4 rfl) ?_
              refine lv_iload_n hx hb udX10_readLines_98 rfl (lv_at hl 2 rfl) ?_
              refine u_10_1 F w (a := 3) rfl utb_26 udX10_readLines_99 (fun H locs w => ?_)
              refine lv_iconst (v := zI 0) hx hb udX10_readLines_102 rfl ?_
              have hD29 : DS (st (st (st (st (st Nm 3 1 (zI (jv3 : Int))) 3 1 (zI (((sk T tn jv3) : Nat) : Int))) 3 1 (zI (((sk T tn (sk T tn jv3 + 1)) : Nat) : Int))) 3 1 (zI (jv12 : Int))) 3 1 (zI (i : Int))) T tn i y o1 := DS.at hD15 (by omega)
              have fD29 : FrD (st (st (st (st (st Nm 3 1 (zI (jv3 : Int))) 3 1 (zI (((sk T tn jv3) : Nat) : Int))) 3 1 (zI (((sk T tn (sk T tn jv3 + 1)) : Nat) : Int))) 3 1 (zI (jv12 : Int))) 3 1 (zI (i : Int))) M := FrD.tr fD15 FrD.s
              exact e_z F w hr hlocks (nar_z (by omega)) (Or.inr ⟨i1.symm.trans (rl_n (by omega) (ln_4 ev3 ev12 (fun h9 => ho9 h9.1)) (by omega)), rfl, hD29.o, fD29⟩) udX10_readLines_103
          · rw [hMe] at w
            refine lv_istore (lv' := [(5, .int (zI (-1))), (4, .int (zI (v3 : Int))), (3, .int (zI (i : Int))), (2, .int (zI (cn : Int))), (0, .ref (B + 3)), (1, .ref (B + 143))]) hx hb udX10_readLines_76 hl (by decide) rfl (fun ls hl => ?_)
            refine lv_iload hx hb udX10_readLines_78 (lv_at hl 0 rfl) ?_
            refine lv_iconst (v := zI (-1)) hx hb udX10_readLines_80 rfl ?_
            refine z_icmp_ne (tgt := 86) hx hb (by omega) (by omega) udX10_readLines_81 (by decide) (fun c30 => False.elim (by omega)) (fun c30 => ?_)
            refine lv_iconst (v := zI 0) hx hb udX10_readLines_84 rfl ?_
            exact e_z F w hr hlocks (nar_z (by omega)) (Or.inr ⟨i1.symm.trans (rl_n (by omega) (ln_3 ev3 ev12) (by omega)), rfl, hD11.o, fD11⟩) udX10_readLines_85
        · have hkk7 := sk_le (T := T) (N := tn) (i := jv3) (by omega)
          rw [hMe] at w
          refine z_if_ne (tgt := 68) hx hb (by omega) udX10_readLines_63 (by decide) (fun c31 => False.elim (by omega)) (fun c31 => ?_)
          refine lv_iconst (v := zI 0) hx hb udX10_readLines_66 rfl ?_
          have hD32 : DS (st (st Nm 3 1 (zI (jv3 : Int))) 3 1 (zI (((sk T tn jv3) : Nat) : Int))) T tn (sk T tn jv3) y o1 := DS.at hD6 (by omega)
          have fD32 : FrD (st (st Nm 3 1 (zI (jv3 : Int))) 3 1 (zI (((sk T tn jv3) : Nat) : Int))) M := FrD.tr fD6 FrD.s
          exact e_z F w hr hlocks (nar_z (by omega)) (Or.inr ⟨i1.symm.trans (rl_n (by omega) (ln_2 ev3 ek7) (by omega)), rfl, hD32.o, fD32⟩) udX10_readLines_67
      · rw [hMe] at w
        refine lv_istore (lv' := [(4, .int (zI (-1))), (3, .int (zI (i : Int))), (2, .int (zI (cn : Int))), (0, .ref (B + 3)), (1, .ref (B + 143))]) hx hb udX10_readLines_51 hl (by decide) rfl (fun ls hl => ?_)
        refine lv_iload hx hb udX10_readLines_53 (lv_at hl 0 rfl) ?_
        refine lv_iconst (v := zI (-1)) hx hb udX10_readLines_55 rfl ?_
        refine z_icmp_eq (tgt := 66) hx hb (by omega) (by omega) udX10_readLines_56 (by decide) (fun c33 => ?_) (fun c33 => False.elim (by omega))
        refine lv_iconst (v := zI 0) hx hb udX10_readLines_66 rfl ?_
        exact e_z F w hr hlocks (nar_z (by omega)) (Or.inr ⟨i1.symm.trans (rl_n (by omega) (ln_1 ev3) (by omega)), rfl, i0.o, i2⟩) udX10_readLines_67
theorem udX10_readLines_0 : decode cX10_readLines 0 = .ok (.aload_n 0, 1) := dq0 kk_42 (by decide +kernel)
theorem udX10_readLines_1 : decode cX10_readLines 1 = .ok (.aload_n 0, 1) := dq0 kk_42 (by decide +kernel)
theorem udX10_readLines_2 : decode cX10_readLines 2 = .ok (.getfield 15, 3) := dqV kk_180 (by decide +kernel)
theorem udX10_readLines_5 : decode cX10_readLines 5 = .ok (.aload_n 0, 1) := dq0 kk_42 (by decide +kernel)
theorem udX10_readLines_6 : decode cX10_readLines 6 = .ok (.getfield 9, 3) := dqV kk_180 (by decide +kernel)
theorem udX10_readLines_9 : decode cX10_readLines 9 = .ok (.invokevirtual 34, 3) := dqV kk_182 (by decide +kernel)
theorem udX10_readLines_12 : decode cX10_readLines 12 = .ok (.putfield 9, 3) := dqV kk_181 (by decide +kernel)
theorem udX10_readLines_15 : decode cX10_readLines 15 = .ok (.iconst 0, 1) := dq0 kk_3 (by decide +kernel)
theorem udX10_readLines_16 : decode cX10_readLines 16 = .ok (.istore_n 2, 1) := dq0 kk_61 (by decide +kernel)
theorem udX10_readLines_171 : decode cX10_readLines 171 = .ok (.iconst 1, 1) := dq0 kk_4 (by decide +kernel)
theorem udX10_readLines_172 : decode cX10_readLines 172 = .ok (.ireturn, 1) := dq0 kk_172 (by decide +kernel)
set_option maxRecDepth 4000 in
theorem s_X10_readLines {l : Launch} {D : va_G} {B : Nat} {cy : Nat → ClassId} {M : Mem} {T : Nat → Nat} {tn : Nat} (hT : okT T tn) {b : Nat} {y : Sy} {o : Wo} (hD : DS M T tn b y o) : Ci l D B cy yX10_readLines cX10_readLines 6 (some .boolean) 2 48 [.ref (B + 3), .ref (B + 143)] M (fun r M1 => RLQ T tn (rlnF T tn y.1 301 (sk T tn b) o) y M r M1) := by
  refine s_any (by decide) (Nat.le_of_ble_eq_true rfl) ?_
  intro p e s m below meth c ls F hr hlocks w hl
  have F : CallFix p m c cX10_readLines 6 s _ TB RX10 := F
  have hx := F.1
  have hb := F.2.1
  have hl : lv_has ls 6 [(0, .ref (B + 3)), (1, .ref (B + 143))] := hl
  have hN := hT.1
  have hbN := hD.2.2.1
  refine lv_aload_n hx hb udX10_readLines_0 rfl (lv_at hl 0 rfl) ?_
  refine lv_aload_n hx hb udX10_readLines_1 rfl (lv_at hl 0 rfl) ?_
  refine f_10_0 F w (a := 3) rfl utb_25 udX10_readLines_2 ?_
  refine lv_aload_n hx hb udX10_readLines_5 rfl (lv_at hl 0 rfl) ?_
  refine f_10_1 F w (a := 3) rfl utb_26 udX10_readLines_6 ?_
  refine r_val (v := (zI (b : Int))) (hD.2.1) ?_
  refine x_Vi F w (As := [.int (zI (b : Int))]) (rest := [.ref (B + 3)]) (a := 1) (kd_lt (a := 1) (show kd 1 = (8, 0, 0) from rfl) (by decide)) (sh_8 rfl _ _) rfl (s_X8_skipBlanks hT hD.1 (i := b) (by omega)) ugv_X10_34 uhv_X8_skipBlanks ⟨(Nat.le_of_ble_eq_true rfl), (Nat.le_of_ble_eq_true rfl)⟩ hl.1 rfl (Nat.le_of_ble_eq_true rfl) ⟨Nat.zero_le _, Nat.zero_le _⟩ udX10_readLines_9 (fun H locs w => ?_)
  have hk0 := sk_le (T := T) (N := tn) (i := b) (by omega)
  refine u_10_1 F w (a := 3) rfl utb_26 udX10_readLines_12 (fun H locs w => ?_)
  refine lv_iconst (v := zI 0) hx hb udX10_readLines_15 rfl ?_
  refine lv_istore_n (lv' := [(2, .int (zI 0)), (0, .ref (B + 3)), (1, .ref (B + 143))]) hx hb udX10_readLines_16 rfl hl (by decide) rfl (fun ls hl => ?_)
  have hD2 : DS (st M 3 1 (zI (((sk T tn b) : Nat) : Int))) T tn (sk T tn b) y o := DS.at hD (by omega)
  have fD2 : FrD (st M 3 1 (zI (((sk T tn b) : Nat) : Int))) M := FrD.tr FrD.rf FrD.s
  refine lp_X10_lines  F hr hlocks (Nat.le_of_ble_eq_true rfl) (Nat.le_of_ble_eq_true rfl) hT (fun i cn Nm o1 fu H locs ls x0 x1 x2 w hl => ?_) tn (sk T tn b) 0 (st M 3 1 (zI (((sk T tn b) : Nat) : Int))) o 301 hD2 rfl fD2 (by omega) (by omega) (by omega) _ _ ls w (lv_sub hl [0, 1, 2] rfl)
  refine lv_iconst (v := zI 1) hx hb udX10_readLines_171 rfl ?_
  exact e_z F w hr hlocks (nar_z (by omega)) (Or.inl ⟨_, _, x0, rfl, x1, x2⟩) udX10_readLines_172
theorem udX10_faultOf_0 : decode cX10_faultOf 0 = .ok (.aload_n 1, 1) := dq0 kk_43 (by decide +kernel)
theorem udX10_faultOf_1 : decode cX10_faultOf 1 = .ok (.invokevirtual 19, 3) := dqV kk_182 (by decide +kernel)
theorem utk_X9_clear : Cond.code yX9_clear cX9_clear 1 none ∈ TB := tbm (tc2 (List.mem_of_getElem? (i := 111) rfl)) rfl
theorem ugc_X9_clear : GoodIn TB (cw yX9_clear cX9_clear 1 none) := goodIn_c2 utk_X9_clear
theorem utb_60 : Cond.methodLink "ToneLines$WordReader" 19 yX9_clear ∈ TB := tbm (tc2 (List.mem_of_getElem? (i := 108) rfl)) rfl
theorem utb_61 : Cond.instanceMethod yX9_clear ∈ TB := tbm (tc2 (List.mem_of_getElem? (i := 109) rfl)) rfl
theorem utb_62 : Cond.selects "ToneLines$Word" yX9_clear yX9_clear ∈ TB := tbm (tc2 (List.mem_of_getElem? (i := 110) rfl)) rfl
theorem ugv_X10_19 : GoodIn TB (wsV RX10 19 RX9 yX9_clear (cw yX9_clear cX9_clear 1 none)) := goodIn_4 utb_60 utb_61 utb_62 utb_44 ugc_X9_clear
theorem uhv_X9_clear : yX9_clear.cls = RX9 ∧ yX9_clear.cls ≠ "java/lang/invoke/MethodHandle" ∧ yX9_clear.cls ≠ "java/lang/invoke/VarHandle" ∧ (parseMethodDescriptor yX9_clear.desc).map (fun d => d.parameters.length) = some 0 := by decide +kernel
theorem udX10_faultOf_4 : decode cX10_faultOf 4 = .ok (.aload_n 0, 1) := dq0 kk_42 (by decide +kernel)
theorem udX10_faultOf_5 : decode cX10_faultOf 5 = .ok (.iconst 0, 1) := dq0 kk_3 (by decide +kernel)
theorem udX10_faultOf_6 : decode cX10_faultOf 6 = .ok (.putfield 9, 3) := dqV kk_181 (by decide +kernel)
theorem udX10_faultOf_9 : decode cX10_faultOf 9 = .ok (.aload_n 0, 1) := dq0 kk_42 (by decide +kernel)
theorem udX10_faultOf_10 : decode cX10_faultOf 10 = .ok (.aload_n 1, 1) := dq0 kk_43 (by decide +kernel)
theorem udX10_faultOf_11 : decode cX10_faultOf 11 = .ok (.invokevirtual 24, 3) := dqV kk_182 (by decide +kernel)
theorem utk_X10_readTones : Cond.code yX10_readTones cX10_readTones 4 (some .boolean) ∈ TB := tbm (tc2 (List.mem_of_getElem? (i := 115) rfl)) rfl
theorem ugc_X10_readTones : GoodIn TB (cw yX10_readTones cX10_readTones 4 (some .boolean)) := goodIn_c2 utk_X10_readTones
theorem utb_63 : Cond.methodLink "ToneLines$WordReader" 24 yX10_readTones ∈ TB := tbm (tc2 (List.mem_of_getElem? (i := 112) rfl)) rfl
theorem utb_64 : Cond.instanceMethod yX10_readTones ∈ TB := tbm (tc2 (List.mem_of_getElem? (i := 114) rfl)) rfl
theorem utb_65 : Cond.selects "ToneLines$WordReader" yX10_readTones yX10_readTones ∈ TB := tbp (List.mem_of_getElem? (i := 0) rfl) rfl
theorem ugv_X10_24 : GoodIn TB (wsV RX10 24 RX10 yX10_readTones (cw yX10_readTones cX10_readTones 4 (some .boolean))) := goodIn_4 utb_63 utb_64 utb_65 utb_52 ugc_X10_readTones
theorem uhv_X10_readTones : yX10_readTones.cls = RX10 ∧ yX10_readTones.cls ≠ "java/lang/invoke/MethodHandle" ∧ yX10_readTones.cls ≠ "java/lang/invoke/VarHandle" ∧ (parseMethodDescriptor yX10_readTones.desc).map (fun d => d.parameters.length) = some 1 := by decide +kernel
theorem udX10_faultOf_14 : decode cX10_faultOf 14 = .ok (.ifCond .eq 23, 3) := dqT kk_153 (by decide +kernel)
theorem udX10_faultOf_17 : decode cX10_faultOf 17 = .ok (.aload_n 0, 1) := dq0 kk_42 (by decide +kernel)
theorem udX10_faultOf_18 : decode cX10_faultOf 18 = .ok (.aload_n 1, 1) := dq0 kk_43 (by decide +kernel)
theorem udX10_faultOf_19 : decode cX10_faultOf 19 = .ok (.invokevirtual 28, 3) := dqV kk_182 (by decide +kernel)
theorem utk_X10_readSyllables : Cond.code yX10_readSyllables cX10_readSyllables 4 (some .boolean) ∈ TB := tbm (tc2 (List.mem_of_getElem? (i := 218) rfl)) rfl
theorem ugc_X10_readSyllables : GoodIn TB (cw yX10_readSyllables cX10_readSyllables 4 (some .boolean)) := goodIn_c2 utk_X10_readSyllables
theorem utb_66 : Cond.methodLink "ToneLines$WordReader" 28 yX10_readSyllables ∈ TB := tbm (tc2 (List.mem_of_getElem? (i := 215) rfl)) rfl
theorem utb_67 : Cond.instanceMethod yX10_readSyllables ∈ TB := tbm (tc2 (List.mem_of_getElem? (i := 217) rfl)) rfl
theorem utb_68 : Cond.selects "ToneLines$WordReader" yX10_readSyllables yX10_readSyllables ∈ TB := tbp (List.mem_of_getElem? (i := 1) rfl) rfl
theorem ugv_X10_28 : GoodIn TB (wsV RX10 28 RX10 yX10_readSyllables (cw yX10_readSyllables cX10_readSyllables 4 (some .boolean))) := goodIn_4 utb_66 utb_67 utb_68 utb_52 ugc_X10_readSyllables
theorem uhv_X10_readSyllables : yX10_readSyllables.cls = RX10 ∧ yX10_readSyllables.cls ≠ "java/lang/invoke/MethodHandle" ∧ yX10_readSyllables.cls ≠ "java/lang/invoke/VarHandle" ∧ (parseMethodDescriptor yX10_readSyllables.desc).map (fun d => d.parameters.length) = some 1 := by decide +kernel
theorem udX10_faultOf_22 : decode cX10_faultOf 22 = .ok (.ifCond .eq 15, 3) := dqT kk_153 (by decide +kernel)
theorem udX10_faultOf_25 : decode cX10_faultOf 25 = .ok (.aload_n 0, 1) := dq0 kk_42 (by decide +kernel)
theorem udX10_faultOf_26 : decode cX10_faultOf 26 = .ok (.aload_n 1, 1) := dq0 kk_43 (by decide +kernel)
theorem udX10_faultOf_27 : decode cX10_faultOf 27 = .ok (.invokevirtual 31, 3) := dqV kk_182 (by decide +kernel)
theorem utk_X10_readLines : Cond.code yX10_readLines cX10_readLines 6 (some .boolean) ∈ TB := tbm (tc2 (List.mem_of_getElem? (i := 230) rfl)) rfl
theorem ugc_X10_readLines : GoodIn TB (cw yX10_readLines cX10_readLines 6 (some .boolean)) := goodIn_c2 utk_X10_readLines
theorem utb_69 : Cond.methodLink "ToneLines$WordReader" 31 yX10_readLines ∈ TB := tbm (tc2 (List.mem_of_getElem? (i := 227) rfl)) rfl
theorem utb_70 : Cond.instanceMethod yX10_readLines ∈ TB := tbm (tc2 (List.mem_of_getElem? (i := 229) rfl)) rfl
theorem utb_71 : Cond.selects "ToneLines$WordReader" yX10_readLines yX10_readLines ∈ TB := tbp (List.mem_of_getElem? (i := 2) rfl) rfl
theorem ugv_X10_31 : GoodIn TB (wsV RX10 31 RX10 yX10_readLines (cw yX10_readLines cX10_readLines 6 (some .boolean))) := goodIn_4 utb_69 utb_70 utb_71 utb_52 ugc_X10_readLines
theorem uhv_X10_readLines : yX10_readLines.cls = RX10 ∧ yX10_readLines.cls ≠ "java/lang/invoke/MethodHandle" ∧ yX10_readLines.cls ≠ "java/lang/invoke/VarHandle" ∧ (parseMethodDescriptor yX10_readLines.desc).map (fun d => d.parameters.length) = some 1 := by decide +kernel
theorem udX10_faultOf_30 : decode cX10_faultOf 30 = .ok (.ifCond .eq 7, 3) := dqT kk_153 (by decide +kernel)
theorem udX10_faultOf_33 : decode cX10_faultOf 33 = .ok (.iconst 1, 1) := dq0 kk_4 (by decide +kernel)
theorem udX10_faultOf_34 : decode cX10_faultOf 34 = .ok (.goto 4, 3) := dqT kk_167 (by decide +kernel)
theorem udX10_faultOf_38 : decode cX10_faultOf 38 = .ok (.istore_n 2, 1) := dq0 kk_61 (by decide +kernel)
theorem udX10_faultOf_39 : decode cX10_faultOf 39 = .ok (.iload_n 2, 1) := dq0 kk_28 (by decide +kernel)
theorem udX10_faultOf_40 : decode cX10_faultOf 40 = .ok (.ifCond .eq 7, 3) := dqT kk_153 (by decide +kernel)
theorem udX10_faultOf_43 : decode cX10_faultOf 43 = .ok (.iconst (-1), 1) := dq0 kk_2 (by decide +kernel)
theorem udX10_faultOf_44 : decode cX10_faultOf 44 = .ok (.goto 7, 3) := dqT kk_167 (by decide +kernel)
theorem udX10_faultOf_51 : decode cX10_faultOf 51 = .ok (.ireturn, 1) := dq0 kk_172 (by decide +kernel)
theorem udX10_faultOf_37 : decode cX10_faultOf 37 = .ok (.iconst 0, 1) := dq0 kk_3 (by decide +kernel)
theorem udX10_faultOf_47 : decode cX10_faultOf 47 = .ok (.aload_n 0, 1) := dq0 kk_42 (by decide +kernel)
theorem udX10_faultOf_48 : decode cX10_faultOf 48 = .ok (.getfield 9, 3) := dqV kk_180 (by decide +kernel)
set_option maxRecDepth 4000 in
theorem s_X10_faultOf {l : Launch} {D : va_G} {B : Nat} {cy : Nat → ClassId} {M : Mem} {T : Nat → Nat} {tn : Nat} (hT : okT T tn) (hTc : isTc M T tn) : Ci l D B cy yX10_faultOf cX10_faultOf 3 (some .int) 5 114 [.ref (B + 3), .ref (B + 143)] M (fun r M1 => ((∃ x, wdF T tn = some x ∧ r = zI (-1) ∧ CF M1 143 x) ∨ (wdF T tn = none ∧ ∃ j : Nat, r = zI (j : Int) ∧ j ≤ 300)) ∧ FrD M1 M) := by
  refine s_any (by decide) (Nat.le_of_ble_eq_true rfl) ?_
  intro p e s m below meth c ls F hr hlocks w hl
  have F : CallFix p m c cX10_faultOf 3 s _ TB RX10 := F
  have hx := F.1
  have hb := F.2.1
  have hl : lv_has ls 3 [(0, .ref (B + 3)), (1, .ref (B + 143))] := hl
  have hN := hT.1
  refine lv_aload_n hx hb udX10_faultOf_0 rfl (lv_at hl 1 rfl) ?_
  refine k_Vv F w (As := []) (rest := []) (a := 143) (kd_lt (a := 143) (show kd 143 = (9, 0, 0) from rfl) (by decide)) (sh_9 rfl _ _) rfl (s_X9_clear (a := 143) rfl) ugv_X10_19 uhv_X9_clear ⟨(Nat.le_of_ble_eq_true rfl), (Nat.le_of_ble_eq_true rfl)⟩ hl.1 rfl (Nat.le_of_ble_eq_true rfl) ⟨Nat.zero_le _, Nat.zero_le _⟩ udX10_faultOf_1 (fun Ma1 H locs hp w => ?_)
  rcases hp with ⟨hW2, hF2⟩
  refine lv_aload_n hx hb udX10_faultOf_4 rfl (lv_at hl 0 rfl) ?_
  refine lv_iconst (v := zI 0) hx hb udX10_faultOf_5 rfl ?_
  refine u_10_1 F w (a := 3) rfl utb_26 udX10_faultOf_6 (fun H locs w => ?_)
  have hD0 : DS (st Ma1 3 1 (zI 0)) T tn 0 (0, 0, 0) wo0 := ⟨(hTc.d (FrD.w hF2)).o (by decide) (by decide), st_at, Nat.zero_le _, CW.s3 ⟨hW2, wo0_ok, by decide, by decide⟩⟩
  have fD0 : FrD (st Ma1 3 1 (zI 0)) M := FrD.tr (FrD.w hF2) FrD.s
  refine lv_aload_n hx hb udX10_faultOf_9 rfl (lv_at hl 0 rfl) ?_
  refine lv_aload_n hx hb udX10_faultOf_10 rfl (lv_at hl 1 rfl) ?_
  refine k_Vi F w (As := [.ref (B + 143)]) (rest := []) (a := 3) (kd_lt (a := 3) (show kd 3 = (10, 0, 0) from rfl) (by decide)) (sh_10 rfl _ _) rfl (s_X10_readTones hT hD0) ugv_X10_24 uhv_X10_readTones ⟨(Nat.le_of_ble_eq_true rfl), (Nat.le_of_ble_eq_true rfl)⟩ hl.1 rfl (Nat.le_of_ble_eq_true rfl) ⟨Nat.zero_le _, Nat.zero_le _⟩ udX10_faultOf_11 (fun r Ma3 H locs hp w => ?_)
  rcases hp with ⟨iz2, oz2, ez2, rfl, hDz2, fz2⟩ | ⟨ez2, rfl, ⟨jz2, hjz2, lz2⟩, fz2⟩
  · have fDz2 : FrD Ma3 M := FrD.tr fD0 fz2
    refine z_if_eq (tgt := 37) hx hb (by omega) udX10_faultOf_14 (by decide) (fun c4 => False.elim (by omega)) (fun c4 => ?_)
    refine lv_aload_n hx hb udX10_faultOf_17 rfl (lv_at hl 0 rfl) ?_
    refine lv_aload_n hx hb udX10_faultOf_18 rfl (lv_at hl 1 rfl) ?_
    refine k_Vi F w (As := [.ref (B + 143)]) (rest := []) (a := 3) (kd_lt (a := 3) (show kd 3 = (10, 0, 0) from rfl) (by decide)) (sh_10 rfl _ _) rfl (s_X10_readSyllables hT hDz2) ugv_X10_28 uhv_X10_readSyllables ⟨(Nat.le_of_ble_eq_true rfl), (Nat.le_of_ble_eq_true rfl)⟩ hl.1 rfl (Nat.le_of_ble_eq_true rfl) ⟨Nat.zero_le _, Nat.zero_le _⟩ udX10_faultOf_19 (fun r Ma6 H locs hp w => ?_)
    rcases hp with ⟨iz5, oz5, ez5, rfl, hDz5, fz5⟩ | ⟨ez5, rfl, ⟨jz5, hjz5, lz5⟩, fz5⟩
    · have fDz5 : FrD Ma6 M := FrD.tr fDz2 fz5
      refine z_if_eq (tgt := 37) hx hb (by omega) udX10_faultOf_22 (by decide) (fun c7 => False.elim (by omega)) (fun c7 => ?_)
      refine lv_aload_n hx hb udX10_faultOf_25 rfl (lv_at hl 0 rfl) ?_
      refine lv_aload_n hx hb udX10_faultOf_26 rfl (lv_at hl 1 rfl) ?_
      refine k_Vi F w (As := [.ref (B + 143)]) (rest := []) (a := 3) (kd_lt (a := 3) (show kd 3 = (10, 0, 0) from rfl) (by decide)) (sh_10 rfl _ _) rfl (s_X10_readLines hT hDz5) ugv_X10_31 uhv_X10_readLines ⟨(Nat.le_of_ble_eq_true rfl), (Nat.le_of_ble_eq_true rfl)⟩ hl.1 rfl (Nat.le_of_ble_eq_true rfl) ⟨Nat.zero_le _, Nat.zero_le _⟩ udX10_faultOf_27 (fun r Ma9 H locs hp w => ?_)
      rcases hp with ⟨iz8, oz8, ez8, rfl, hDz8, fz8⟩ | ⟨ez8, rfl, ⟨jz8, hjz8, lz8⟩, fz8⟩
      · have fDz8 : FrD Ma9 M := FrD.tr fDz5 fz8
        refine z_if_eq (tgt := 37) hx hb (by omega) udX10_faultOf_30 (by decide) (fun c10 => False.elim (by omega)) (fun c10 => ?_)
        refine lv_iconst (v := zI 1) hx hb udX10_faultOf_33 rfl ?_
        refine lv_goto (tgt := 38) hx hb udX10_faultOf_34 (by decide) ?_
        refine lv_istore_n (lv' := [(2, .int (zI 1)), (0, .ref (B + 3)), (1, .ref (B + 143))]) hx hb udX10_faultOf_38 rfl hl (by decide) rfl (fun ls hl => ?_)
        refine lv_iload_n hx hb udX10_faultOf_39 rfl (lv_at hl 0 rfl) ?_
        refine z_if_eq (tgt := 47) hx hb (by omega) udX10_faultOf_40 (by decide) (fun c11 => False.elim (by omega)) (fun c11 => ?_)
        refine lv_iconst (v := zI (-1)) hx hb udX10_faultOf_43 rfl ?_
        refine lv_goto (tgt := 51) hx hb udX10_faultOf_44 (by decide) ?_
        exact e_i F w hr hlocks ⟨Or.inl ⟨_, wd_y ez2 ez5 ez8, rfl, hDz8.2.2.2⟩, fDz8⟩ udX10_faultOf_51
      · have fDz8 : FrD Ma9 M := FrD.tr fDz5 fz8
        refine z_if_eq (tgt := 37) hx hb (by omega) udX10_faultOf_30 (by decide) (fun c12 => ?_) (fun c12 => False.elim (by omega))
        refine lv_iconst (v := zI 0) hx hb udX10_faultOf_37 rfl ?_
        refine lv_istore_n (lv' := [(2, .int (zI 0)), (0, .ref (B + 3)), (1, .ref (B + 143))]) hx hb udX10_faultOf_38 rfl hl (by decide) rfl (fun ls hl => ?_)
        refine lv_iload_n hx hb udX10_faultOf_39 rfl (lv_at hl 0 rfl) ?_
        refine z_if_eq (tgt := 47) hx hb (by omega) udX10_faultOf_40 (by decide) (fun c13 => ?_) (fun c13 => False.elim (by omega))
        refine lv_aload_n hx hb udX10_faultOf_47 rfl (lv_at hl 1 rfl) ?_
        refine f_10_1 F w (a := 3) rfl utb_26 udX10_faultOf_48 ?_
        refine r_val (v := (zI (jz8 : Int))) (hjz8) ?_
        exact e_i F w hr hlocks ⟨Or.inr ⟨wd_3 ez2 ez5 ez8, jz8, rfl, by omega⟩, fDz8⟩ udX10_faultOf_51
    · have fDz5 : FrD Ma6 M := FrD.tr fDz2 fz5
      refine z_if_eq (tgt := 37) hx hb (by omega) udX10_faultOf_22 (by decide) (fun c14 => ?_) (fun c14 => False.elim (by omega))
      refine lv_iconst (v := zI 0) hx hb udX10_faultOf_37 rfl ?_
      refine lv_istore_n (lv' := [(2, .int (zI 0)), (0, .ref (B + 3)), (1, .ref (B + 143))]) hx hb udX10_faultOf_38 rfl hl (by decide) rfl (fun ls hl => ?_)
      refine lv_iload_n hx hb udX10_faultOf_39 rfl (lv_at hl 0 rfl) ?_
      refine z_if_eq (tgt := 47) hx hb (by omega) udX10_faultOf_40 (by decide) (fun c15 => ?_) (fun c15 => False.elim (by omega))
      refine lv_aload_n hx hb udX10_faultOf_47 rfl (lv_at hl 1 rfl) ?_
      refine f_10_1 F w (a := 3) rfl utb_26 udX10_faultOf_48 ?_
      refine r_val (v := (zI (jz5 : Int))) (hjz5) ?_
      exact e_i F w hr hlocks ⟨Or.inr ⟨wd_2 ez2 ez5, jz5, rfl, by omega⟩, fDz5⟩ udX10_faultOf_51
  · have fDz2 : FrD Ma3 M := FrD.tr fD0 fz2
    refine z_if_eq (tgt := 37) hx hb (by omega) udX10_faultOf_14 (by decide) (fun c16 => ?_) (fun c16 => False.elim (by omega))
    refine lv_iconst (v := zI 0) hx hb udX10_faultOf_37 rfl ?_
    refine lv_istore_n (lv' := [(2, .int (zI 0)), (0, .ref (B + 3)), (1, .ref (B + 143))]) hx hb udX10_faultOf_38 rfl hl (by decide) rfl (fun ls hl => ?_)
    refine lv_iload_n hx hb udX10_faultOf_39 rfl (lv_at hl 0 rfl) ?_
    refine z_if_eq (tgt := 47) hx hb (by omega) udX10_faultOf_40 (by decide) (fun c17 => ?_) (fun c17 => False.elim (by omega))
    refine lv_aload_n hx hb udX10_faultOf_47 rfl (lv_at hl 1 rfl) ?_
    refine f_10_1 F w (a := 3) rfl utb_26 udX10_faultOf_48 ?_
    refine r_val (v := (zI (jz2 : Int))) (hjz2) ?_
    exact e_i F w hr hlocks ⟨Or.inr ⟨wd_1 ez2, jz2, rfl, by omega⟩, fDz2⟩ udX10_faultOf_51
theorem udX11_word_0 : decode cX11_word 0 = .ok (.aload_n 0, 1) := dq0 kk_42 (by decide +kernel)
theorem udX11_word_1 : decode cX11_word 1 = .ok (.getfield 21, 3) := dqV kk_180 (by decide +kernel)
theorem utb_72 : Cond.fieldLink "ToneLines" 21 "ToneLines" "wordReader" "LToneLines$WordReader;" ∈ TB := tbm (tc2 (List.mem_of_getElem? (i := 58) rfl)) rfl
theorem udX11_word_4 : decode cX11_word 4 = .ok (.aload_n 0, 1) := dq0 kk_42 (by decide +kernel)
theorem udX11_word_5 : decode cX11_word 5 = .ok (.getfield 75, 3) := dqV kk_180 (by decide +kernel)
theorem utb_73 : Cond.fieldLink "ToneLines" 75 "ToneLines" "draft" "LToneLines$Word;" ∈ TB := wtb_261
theorem udX11_word_8 : decode cX11_word 8 = .ok (.invokevirtual 86, 3) := dqV kk_182 (by decide +kernel)
theorem utk_X10_faultOf : Cond.code yX10_faultOf cX10_faultOf 3 (some .int) ∈ TB := tbm (tc2 (List.mem_of_getElem? (i := 107) rfl)) rfl
theorem ugc_X10_faultOf : GoodIn TB (cw yX10_faultOf cX10_faultOf 3 (some .int)) := goodIn_c2 utk_X10_faultOf
theorem utb_74 : Cond.methodLink "ToneLines" 86 yX10_faultOf ∈ TB := tbm (tc2 (List.mem_of_getElem? (i := 104) rfl)) rfl
theorem utb_75 : Cond.instanceMethod yX10_faultOf ∈ TB := tbm (tc2 (List.mem_of_getElem? (i := 105) rfl)) rfl
theorem utb_76 : Cond.selects "ToneLines$WordReader" yX10_faultOf yX10_faultOf ∈ TB := tbm (tc2 (List.mem_of_getElem? (i := 106) rfl)) rfl
theorem ugv_X11_86 : GoodIn TB (wsV RX11 86 RX10 yX10_faultOf (cw yX10_faultOf cX10_faultOf 3 (some .int))) := goodIn_4 utb_74 utb_75 utb_76 utb_52 ugc_X10_faultOf
theorem uhv_X10_faultOf : yX10_faultOf.cls = RX10 ∧ yX10_faultOf.cls ≠ "java/lang/invoke/MethodHandle" ∧ yX10_faultOf.cls ≠ "java/lang/invoke/VarHandle" ∧ (parseMethodDescriptor yX10_faultOf.desc).map (fun d => d.parameters.length) = some 1 := by decide +kernel
theorem udX11_word_11 : decode cX11_word 11 = .ok (.istore_n 1, 1) := dq0 kk_60 (by decide +kernel)
theorem udX11_word_12 : decode cX11_word 12 = .ok (.aload_n 0, 1) := dq0 kk_42 (by decide +kernel)
theorem udX11_word_13 : decode cX11_word 13 = .ok (.getfield 12, 3) := dqV kk_180 (by decide +kernel)
theorem utb_77 : Cond.fieldLink "ToneLines" 12 "ToneLines" "tape" "LToneLines$Tape;" ∈ TB := rtb_105
theorem udX11_word_16 : decode cX11_word 16 = .ok (.iconst 0, 1) := dq0 kk_3 (by decide +kernel)
theorem udX11_word_17 : decode cX11_word 17 = .ok (.putfield 78, 3) := dqV kk_181 (by decide +kernel)
theorem utb_78 : Cond.fieldLink "ToneLines" 78 "ToneLines$Tape" "size" "I" ∈ TB := rtb_106
theorem udX11_word_20 : decode cX11_word 20 = .ok (.iload_n 1, 1) := dq0 kk_27 (by decide +kernel)
theorem udX11_word_21 : decode cX11_word 21 = .ok (.iconst (-1), 1) := dq0 kk_2 (by decide +kernel)
theorem udX11_word_22 : decode cX11_word 22 = .ok (.if_icmp .eq 8, 3) := dqT kk_159 (by decide +kernel)
theorem udX11_word_30 : decode cX11_word 30 = .ok (.aload_n 0, 1) := dq0 kk_42 (by decide +kernel)
theorem udX11_word_31 : decode cX11_word 31 = .ok (.getfield 43, 3) := dqV kk_180 (by decide +kernel)
theorem utb_79 : Cond.fieldLink "ToneLines" 43 "ToneLines" "told" "LToneLines$Word;" ∈ TB := wtb_214
theorem udX11_word_34 : decode cX11_word 34 = .ok (.aload_n 0, 1) := dq0 kk_42 (by decide +kernel)
theorem udX11_word_35 : decode cX11_word 35 = .ok (.getfield 75, 3) := dqV kk_180 (by decide +kernel)
theorem udX11_word_38 : decode cX11_word 38 = .ok (.invokevirtual 90, 3) := dqV kk_182 (by decide +kernel)
theorem utk_X9_copyFrom : Cond.code yX9_copyFrom cX9_copyFrom 2 none ∈ TB := wtk_X9_copyFrom
theorem ugc_X9_copyFrom : GoodIn TB (cw yX9_copyFrom cX9_copyFrom 2 none) := goodIn_c2 utk_X9_copyFrom
theorem utb_80 : Cond.methodLink "ToneLines" 90 yX9_copyFrom ∈ TB := wtb_225
theorem utb_81 : Cond.instanceMethod yX9_copyFrom ∈ TB := wtb_186
theorem utb_82 : Cond.selects "ToneLines$Word" yX9_copyFrom yX9_copyFrom ∈ TB := wtb_187
theorem ugv_X11_90 : GoodIn TB (wsV RX11 90 RX9 yX9_copyFrom (cw yX9_copyFrom cX9_copyFrom 2 none)) := goodIn_4 utb_80 utb_81 utb_82 utb_44 ugc_X9_copyFrom
theorem uhv_X9_copyFrom : yX9_copyFrom.cls = RX9 ∧ yX9_copyFrom.cls ≠ "java/lang/invoke/MethodHandle" ∧ yX9_copyFrom.cls ≠ "java/lang/invoke/VarHandle" ∧ (parseMethodDescriptor yX9_copyFrom.desc).map (fun d => d.parameters.length) = some 1 := whv_X9_copyFrom
theorem udX11_word_41 : decode cX11_word 41 = .ok (.aload_n 0, 1) := dq0 kk_42 (by decide +kernel)
theorem udX11_word_42 : decode cX11_word 42 = .ok (.getfield 47, 3) := dqV kk_180 (by decide +kernel)
theorem utb_83 : Cond.fieldLink "ToneLines" 47 "ToneLines" "history" "LToneLines$History;" ∈ TB := wtb_213
theorem udX11_word_45 : decode cX11_word 45 = .ok (.iconst 0, 1) := dq0 kk_3 (by decide +kernel)
theorem udX11_word_46 : decode cX11_word 46 = .ok (.putfield 94, 3) := dqV kk_181 (by decide +kernel)
theorem utb_84 : Cond.fieldLink "ToneLines" 94 "ToneLines$History" "acts" "I" ∈ TB := wtb_275
theorem udX11_word_49 : decode cX11_word 49 = .ok (.aload_n 0, 1) := dq0 kk_42 (by decide +kernel)
theorem udX11_word_50 : decode cX11_word 50 = .ok (.invokevirtual 97, 3) := dqV kk_182 (by decide +kernel)
theorem utk_X11_outdate : Cond.code yX11_outdate cX11_outdate 1 none ∈ TB := rtk_X11_outdate
theorem ugc_X11_outdate : GoodIn TB (cw yX11_outdate cX11_outdate 1 none) := goodIn_c2 utk_X11_outdate
theorem utb_85 : Cond.methodLink "ToneLines" 97 yX11_outdate ∈ TB := rtb_113
theorem utb_86 : Cond.instanceMethod yX11_outdate ∈ TB := rtb_114
theorem utb_87 : Cond.selects "ToneLines" yX11_outdate yX11_outdate ∈ TB := rtb_115
theorem ugv_X11_97 : GoodIn TB (wsV RX11 97 RX11 yX11_outdate (cw yX11_outdate cX11_outdate 1 none)) := goodIn_4 utb_85 utb_86 utb_87 utb_31 ugc_X11_outdate
theorem uhv_X11_outdate : yX11_outdate.cls = RX11 ∧ yX11_outdate.cls ≠ "java/lang/invoke/MethodHandle" ∧ yX11_outdate.cls ≠ "java/lang/invoke/VarHandle" ∧ (parseMethodDescriptor yX11_outdate.desc).map (fun d => d.parameters.length) = some 0 := rhv_X11_outdate
theorem udX11_word_53 : decode cX11_word 53 = .ok (.aload_n 0, 1) := dq0 kk_42 (by decide +kernel)
theorem udX11_word_54 : decode cX11_word 54 = .ok (.getfield 43, 3) := dqV kk_180 (by decide +kernel)
theorem udX11_word_57 : decode cX11_word 57 = .ok (.getfield 100, 3) := dqV kk_180 (by decide +kernel)
theorem utb_88 : Cond.fieldLink "ToneLines" 100 "ToneLines$Word" "tones" "I" ∈ TB := wtb_234
theorem udX11_word_60 : decode cX11_word 60 = .ok (.ireturn, 1) := dq0 kk_172 (by decide +kernel)
theorem udX11_word_25 : decode cX11_word 25 = .ok (.bipush (-4), 2) := dqS kk_16 (by decide +kernel)
theorem udX11_word_27 : decode cX11_word 27 = .ok (.iload_n 1, 1) := dq0 kk_27 (by decide +kernel)
theorem udX11_word_28 : decode cX11_word 28 = .ok (.isub, 1) := dq0 kk_100 (by decide +kernel)
theorem udX11_word_29 : decode cX11_word 29 = .ok (.ireturn, 1) := dq0 kk_172 (by decide +kernel)
set_option maxRecDepth 4000 in
theorem g_word {l : Launch} {D : va_G} {B : Nat} {cy : Nat → ClassId} {M : Mem} {T : Nat → Nat} {tn : Nat} (hT : okT T tn) (hTc : isTc M T tn) {Ps : Nat → Nat → Int} {mr rd k : Nat} {x : Fw} {Hs : Nat → Fw} (hS : CS M Ps mr x rd Hs k) : Ci l D B cy yX11_word cX11_word 2 (some .int) 6 136 [.ref (B + 0)] M (fun r M1 => M1.1 1 1 = zI 0 ∧ ((∃ y, wdF T tn = some y ∧ CS M1 Ps mr y 0 Hs 0) ∨ (wdF T tn = none ∧ CS M1 Ps mr x rd Hs k)) ∧ ∀ b, 146 ≤ b → M1.1 b = M.1 b) := by
  refine s_any (by decide) (Nat.le_of_ble_eq_true rfl) ?_
  intro p e s m below meth c ls F hr hlocks w hl
  have F : CallFix p m c cX11_word 2 s _ TB RX11 := F
  have hx := F.1
  have hb := F.2.1
  have hl : lv_has ls 2 [(0, .ref (B + 0))] := hl
  have hN := hT.1
  refine lv_aload_n hx hb udX11_word_0 rfl (lv_at hl 0 rfl) ?_
  refine f_11_1 F w (a := 0) rfl utb_72 udX11_word_1 ?_
  refine lv_aload_n hx hb udX11_word_4 rfl (lv_at hl 0 rfl) ?_
  refine f_11_9 F w (a := 0) rfl utb_73 udX11_word_5 ?_
  refine k_Vi F w (As := [.ref (B + 143)]) (rest := []) (a := 3) (kd_lt (a := 3) (show kd 3 = (10, 0, 0) from rfl) (by decide)) (sh_10 rfl _ _) rfl (s_X10_faultOf hT hTc) ugv_X11_86 uhv_X10_faultOf ⟨(Nat.le_of_ble_eq_true rfl), (Nat.le_of_ble_eq_true rfl)⟩ hl.1 rfl (Nat.le_of_ble_eq_true rfl) ⟨Nat.zero_le _, Nat.zero_le _⟩ udX11_word_8 (fun r Ma1 H locs hp w => ?_)
  rcases hp with ⟨⟨y9, e9, rfl, hC9⟩ | ⟨e9, j9, rfl, l9⟩, hF9⟩
  · have hS9 := (hS.d hF9).s1 (j := 1) (v := zI 0)
    refine lv_istore_n (lv' := [(1, .int (zI (-1))), (0, .ref (B + 0))]) hx hb udX11_word_11 rfl hl (by decide) rfl (fun ls hl => ?_)
    refine lv_aload_n hx hb udX11_word_12 rfl (lv_at hl 1 rfl) ?_
    refine f_11_0 F w (a := 0) rfl utb_77 udX11_word_13 ?_
    refine lv_iconst (v := zI 0) hx hb udX11_word_16 rfl ?_
    refine u_8_1 F w (a := 1) rfl utb_78 udX11_word_17 (fun H locs w => ?_)
    refine lv_iload_n hx hb udX11_word_20 rfl (lv_at hl 0 rfl) ?_
    refine lv_iconst (v := zI (-1)) hx hb udX11_word_21 rfl ?_
    refine z_icmp_eq (tgt := 30) hx hb (by omega) (by omega) udX11_word_22 (by decide) (fun c2 => ?_) (fun c2 => False.elim (by omega))
    refine lv_aload_n hx hb udX11_word_30 rfl (lv_at hl 1 rfl) ?_
    refine f_11_4 F w (a := 0) rfl utb_79 udX11_word_31 ?_
    refine lv_aload_n hx hb udX11_word_34 rfl (lv_at hl 1 rfl) ?_
    refine f_11_9 F w (a := 0) rfl utb_73 udX11_word_35 ?_
    have hC8 : CF (st Ma1 1 1 (zI 0)) 143 y9 := hC9.fr (st_ob (by decide)) (st_ob (by decide)) (st_ob (by decide))
    refine k_Vv F w (As := [.ref (B + 143)]) (rest := []) (a := 44) (kd_lt (a := 44) (show kd 44 = (9, 0, 0) from rfl) (by decide)) (sh_9 rfl _ _) rfl (s_X9_copyFrom (a := 44) rfl (b := 143) rfl hC8.1 (by omega) hC8.2.1.1) ugv_X11_90 uhv_X9_copyFrom ⟨(Nat.le_of_ble_eq_true rfl), (Nat.le_of_ble_eq_true rfl)⟩ hl.1 rfl (Nat.le_of_ble_eq_true rfl) ⟨Nat.zero_le _, Nat.zero_le _⟩ udX11_word_38 (fun Ma3 H locs hp w => ?_)
    rcases hp with ⟨hW2, hF2⟩
    have hC7 : CF Ma3 44 y9 := ⟨hW2, hC8.2⟩
    have hn7 := hC7.2.1.1
    have hS7 := CS.word hS9 hF2 hC7
    have h11 := (congrFun (hF2.1 1 (by decide) (by decide) (by decide)) 1).trans (st_at (M := _) (x := zI 0))
    refine lv_aload_n hx hb udX11_word_41 rfl (lv_at hl 1 rfl) ?_
    refine f_11_5 F w (a := 0) rfl utb_83 udX11_word_42 ?_
    refine lv_iconst (v := zI 0) hx hb udX11_word_45 rfl ?_
    refine u_2_2 F w (a := 71) rfl utb_84 udX11_word_46 (fun H locs w => ?_)
    refine lv_aload_n hx hb udX11_word_49 rfl (lv_at hl 1 rfl) ?_
    refine x_Vv F w (As := []) (rest := []) (a := 0) (kd_lt (a := 0) (show kd 0 = (11, 0, 0) from rfl) (by decide)) (sh_11 rfl _ _) rfl (g_outdate) ugv_X11_97 uhv_X11_outdate ⟨(Nat.le_of_ble_eq_true rfl), (Nat.le_of_ble_eq_true rfl)⟩ hl.1 rfl (Nat.le_of_ble_eq_true rfl) ⟨Nat.zero_le _, Nat.zero_le _⟩ udX11_word_50 (fun H locs w => ?_)
    refine lv_aload_n hx hb udX11_word_53 rfl (lv_at hl 1 rfl) ?_
    refine f_11_4 F w (a := 0) rfl utb_79 udX11_word_54 ?_
    refine f_9_0 F w (a := 44) rfl utb_88 udX11_word_57 ?_
    refine r_val (v := (zI ((y9.2.2.2.1 : Nat) : Int))) (hS7.t.1.1) ?_
    exact e_i F w hr hlocks ⟨by rw [st_ob (by decide), st_ob (by decide), st_ob (by decide), st_ob (by decide)]; exact h11, Or.inl ⟨y9, e9, hS7⟩, fun b hb => by rw [st_ob (by omega), st_ob (by omega), st_ob (by omega), st_ob (by omega), hF2.1 b (by omega) (by omega) (by omega), st_ob (by omega)]; exact hF9.1 b (by omega) (by omega) (by omega) (by omega)⟩ udX11_word_60
  · have hS9 := (hS.d hF9).s1 (j := 1) (v := zI 0)
    refine lv_istore_n (lv' := [(1, .int (zI (j9 : Int))), (0, .ref (B + 0))]) hx hb udX11_word_11 rfl hl (by decide) rfl (fun ls hl => ?_)
    refine lv_aload_n hx hb udX11_word_12 rfl (lv_at hl 1 rfl) ?_
    refine f_11_0 F w (a := 0) rfl utb_77 udX11_word_13 ?_
    refine lv_iconst (v := zI 0) hx hb udX11_word_16 rfl ?_
    refine u_8_1 F w (a := 1) rfl utb_78 udX11_word_17 (fun H locs w => ?_)
    refine lv_iload_n hx hb udX11_word_20 rfl (lv_at hl 0 rfl) ?_
    refine lv_iconst (v := zI (-1)) hx hb udX11_word_21 rfl ?_
    refine z_icmp_eq (tgt := 30) hx hb (by omega) (by omega) udX11_word_22 (by decide) (fun c5 => False.elim (by omega)) (fun c5 => ?_)
    refine lv_bipush (v := zI (-4)) hx hb udX11_word_25 (by decide) ?_
    refine lv_iload_n hx hb udX11_word_27 rfl (lv_at hl 0 rfl) ?_
    refine z_isub (z := ((-4) - (j9 : Int))) hx hb udX11_word_28 (by omega) ?_
    exact e_i F w hr hlocks ⟨st_at, Or.inr ⟨e9, hS9⟩, fun b hb => by rw [st_ob (by omega)]; exact hF9.1 b (by omega) (by omega) (by omega) (by omega)⟩ udX11_word_29
