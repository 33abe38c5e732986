theorem udX10_readTones_15 : decode cX10_readTones 15 = .ok (.aload_n 0, 1) := dq0 kk_42 (by decide +kernel)
theorem udX10_readTones_16 : decode cX10_readTones 16 = .ok (.getfield 9, 3) := dqV kk_180 (by decide +kernel)
theorem udX10_readTones_19 : decode cX10_readTones 19 = .ok (.aload_n 0, 1) := dq0 kk_42 (by decide +kernel)
theorem udX10_readTones_20 : decode cX10_readTones 20 = .ok (.getfield 15, 3) := dqV kk_180 (by decide +kernel)
theorem udX10_readTones_23 : decode cX10_readTones 23 = .ok (.getfield 40, 3) := dqV kk_180 (by decide +kernel)
theorem utb_36 : Cond.fieldLink "ToneLines$WordReader" 40 "ToneLines$Tape" "size" "I" ∈ TB := tbm (tc1 (List.mem_of_getElem? (i := 41) rfl)) rfl
theorem udX10_readTones_26 : decode cX10_readTones 26 = .ok (.if_icmp .ge 85, 3) := dqT kk_162 (by decide +kernel)
theorem udX10_readTones_29 : decode cX10_readTones 29 = .ok (.aload_n 0, 1) := dq0 kk_42 (by decide +kernel)
theorem udX10_readTones_30 : decode cX10_readTones 30 = .ok (.getfield 15, 3) := dqV kk_180 (by decide +kernel)
theorem udX10_readTones_33 : decode cX10_readTones 33 = .ok (.aload_n 0, 1) := dq0 kk_42 (by decide +kernel)
theorem udX10_readTones_34 : decode cX10_readTones 34 = .ok (.getfield 9, 3) := dqV kk_180 (by decide +kernel)
theorem udX10_readTones_37 : decode cX10_readTones 37 = .ok (.invokevirtual 43, 3) := dqV kk_182 (by decide +kernel)
theorem udX10_readTones_40 : decode cX10_readTones 40 = .ok (.istore_n 2, 1) := dq0 kk_61 (by decide +kernel)
theorem udX10_readTones_41 : decode cX10_readTones 41 = .ok (.iload_n 2, 1) := dq0 kk_28 (by decide +kernel)
theorem udX10_readTones_42 : decode cX10_readTones 42 = .ok (.bipush 47, 2) := dqS kk_16 (by decide +kernel)
theorem udX10_readTones_44 : decode cX10_readTones 44 = .ok (.if_icmp .ne 15, 3) := dqT kk_160 (by decide +kernel)
theorem udX10_readTones_59 : decode cX10_readTones 59 = .ok (.ldc 46, 2) := dqU kk_18 (by decide +kernel)
theorem udX10_readTones_61 : decode cX10_readTones 61 = .ok (.iload_n 2, 1) := dq0 kk_28 (by decide +kernel)
theorem udX10_readTones_62 : decode cX10_readTones 62 = .ok (.i2c, 1) := dq0 kk_146 (by decide +kernel)
theorem udX10_readTones_63 : decode cX10_readTones 63 = .ok (.invokevirtual 48, 3) := dqV kk_182 (by decide +kernel)
theorem utk_J0_indexOf_0f7a4 : Cond.code yJ0_indexOf_0f7a4 cJ0_indexOf_0f7a4 2 (some .int) ∈ TB := tbm (tc2 (List.mem_of_getElem? (i := 128) rfl)) rfl
theorem ugc_J0_indexOf_0f7a4 : GoodIn TB (cw yJ0_indexOf_0f7a4 cJ0_indexOf_0f7a4 2 (some .int)) := goodIn_c2 utk_J0_indexOf_0f7a4
theorem utb_37 : Cond.methodLink "ToneLines$WordReader" 48 yJ0_indexOf_0f7a4 ∈ TB := tbm (tc2 (List.mem_of_getElem? (i := 125) rfl)) rfl
theorem utb_38 : Cond.instanceMethod yJ0_indexOf_0f7a4 ∈ TB := tbm (tc2 (List.mem_of_getElem? (i := 126) rfl)) rfl
theorem utb_39 : Cond.selects "java/lang/String" yJ0_indexOf_0f7a4 yJ0_indexOf_0f7a4 ∈ TB := tbm (tc2 (List.mem_of_getElem? (i := 127) rfl)) rfl
theorem ugv_X10_48 : GoodIn TB (wsV RX10 48 RJ0 yJ0_indexOf_0f7a4 (cw yJ0_indexOf_0f7a4 cJ0_indexOf_0f7a4 2 (some .int))) := goodIn_4 utb_37 utb_38 utb_39 utb_15 ugc_J0_indexOf_0f7a4
theorem uhv_J0_indexOf_0f7a4 : yJ0_indexOf_0f7a4.cls = RJ0 ∧ yJ0_indexOf_0f7a4.cls ≠ "java/lang/invoke/MethodHandle" ∧ yJ0_indexOf_0f7a4.cls ≠ "java/lang/invoke/VarHandle" ∧ (parseMethodDescriptor yJ0_indexOf_0f7a4.desc).map (fun d => d.parameters.length) = some 1 := by decide +kernel
theorem udX10_readTones_66 : decode cX10_readTones 66 = .ok (.istore_n 3, 1) := dq0 kk_62 (by decide +kernel)
theorem udX10_readTones_67 : decode cX10_readTones 67 = .ok (.iload_n 3, 1) := dq0 kk_29 (by decide +kernel)
theorem udX10_readTones_68 : decode cX10_readTones 68 = .ok (.ifCond .lt 12, 3) := dqT kk_155 (by decide +kernel)
theorem udX10_readTones_80 : decode cX10_readTones 80 = .ok (.iconst 0, 1) := dq0 kk_3 (by decide +kernel)
theorem udX10_readTones_81 : decode cX10_readTones 81 = .ok (.ireturn, 1) := dq0 kk_172 (by decide +kernel)
theorem udX10_readTones_71 : decode cX10_readTones 71 = .ok (.aload_n 1, 1) := dq0 kk_43 (by decide +kernel)
theorem udX10_readTones_72 : decode cX10_readTones 72 = .ok (.getfield 53, 3) := dqV kk_180 (by decide +kernel)
theorem utb_40 : Cond.fieldLink "ToneLines$WordReader" 53 "ToneLines$Word" "tones" "I" ∈ TB := tbm (tc1 (List.mem_of_getElem? (i := 131) rfl)) rfl
theorem udX10_readTones_75 : decode cX10_readTones 75 = .ok (.bipush 12, 2) := dqS kk_16 (by decide +kernel)
theorem udX10_readTones_77 : decode cX10_readTones 77 = .ok (.if_icmp .lt 5, 3) := dqT kk_161 (by decide +kernel)
theorem udX10_readTones_82 : decode cX10_readTones 82 = .ok (.aload_n 1, 1) := dq0 kk_43 (by decide +kernel)
theorem udX10_readTones_83 : decode cX10_readTones 83 = .ok (.aload_n 1, 1) := dq0 kk_43 (by decide +kernel)
theorem udX10_readTones_84 : decode cX10_readTones 84 = .ok (.getfield 53, 3) := dqV kk_180 (by decide +kernel)
theorem udX10_readTones_87 : decode cX10_readTones 87 = .ok (.iload_n 3, 1) := dq0 kk_29 (by decide +kernel)
theorem udX10_readTones_88 : decode cX10_readTones 88 = .ok (.invokevirtual 56, 3) := dqV kk_182 (by decide +kernel)
theorem utk_X9_insertTone : Cond.code yX9_insertTone cX9_insertTone 4 none ∈ TB := wtk_X9_insertTone
theorem ugc_X9_insertTone : GoodIn TB (cw yX9_insertTone cX9_insertTone 4 none) := goodIn_c2 utk_X9_insertTone
theorem utb_41 : Cond.methodLink "ToneLines$WordReader" 56 yX9_insertTone ∈ TB := tbm (tc2 (List.mem_of_getElem? (i := 211) rfl)) rfl
theorem utb_42 : Cond.instanceMethod yX9_insertTone ∈ TB := wtb_57
theorem utb_43 : Cond.selects "ToneLines$Word" yX9_insertTone yX9_insertTone ∈ TB := wtb_58
theorem utb_44 : Cond.initialized "ToneLines$Word" ∈ TB := tb_5
theorem ugv_X10_56 : GoodIn TB (wsV RX10 56 RX9 yX9_insertTone (cw yX9_insertTone cX9_insertTone 4 none)) := goodIn_4 utb_41 utb_42 utb_43 utb_44 ugc_X9_insertTone
theorem uhv_X9_insertTone : yX9_insertTone.cls = RX9 ∧ yX9_insertTone.cls ≠ "java/lang/invoke/MethodHandle" ∧ yX9_insertTone.cls ≠ "java/lang/invoke/VarHandle" ∧ (parseMethodDescriptor yX9_insertTone.desc).map (fun d => d.parameters.length) = some 2 := whv_X9_insertTone
theorem udX10_readTones_91 : decode cX10_readTones 91 = .ok (.aload_n 0, 1) := dq0 kk_42 (by decide +kernel)
theorem udX10_readTones_92 : decode cX10_readTones 92 = .ok (.aload_n 0, 1) := dq0 kk_42 (by decide +kernel)
theorem udX10_readTones_93 : decode cX10_readTones 93 = .ok (.getfield 15, 3) := dqV kk_180 (by decide +kernel)
theorem udX10_readTones_96 : decode cX10_readTones 96 = .ok (.aload_n 0, 1) := dq0 kk_42 (by decide +kernel)
theorem udX10_readTones_97 : decode cX10_readTones 97 = .ok (.getfield 9, 3) := dqV kk_180 (by decide +kernel)
theorem udX10_readTones_100 : decode cX10_readTones 100 = .ok (.iconst 1, 1) := dq0 kk_4 (by decide +kernel)
theorem udX10_readTones_101 : decode cX10_readTones 101 = .ok (.iadd, 1) := dq0 kk_96 (by decide +kernel)
theorem udX10_readTones_102 : decode cX10_readTones 102 = .ok (.invokevirtual 34, 3) := dqV kk_182 (by decide +kernel)
theorem udX10_readTones_105 : decode cX10_readTones 105 = .ok (.putfield 9, 3) := dqV kk_181 (by decide +kernel)
theorem udX10_readTones_108 : decode cX10_readTones 108 = .ok (.goto (-93), 3) := dqT kk_167 (by decide +kernel)
theorem udX10_readTones_47 : decode cX10_readTones 47 = .ok (.aload_n 0, 1) := dq0 kk_42 (by decide +kernel)
theorem udX10_readTones_48 : decode cX10_readTones 48 = .ok (.dup, 1) := dq0 kk_89 (by decide +kernel)
theorem udX10_readTones_49 : decode cX10_readTones 49 = .ok (.getfield 9, 3) := dqV kk_180 (by decide +kernel)
theorem udX10_readTones_52 : decode cX10_readTones 52 = .ok (.iconst 1, 1) := dq0 kk_4 (by decide +kernel)
theorem udX10_readTones_53 : decode cX10_readTones 53 = .ok (.iadd, 1) := dq0 kk_96 (by decide +kernel)
theorem udX10_readTones_54 : decode cX10_readTones 54 = .ok (.putfield 9, 3) := dqV kk_181 (by decide +kernel)
theorem udX10_readTones_57 : decode cX10_readTones 57 = .ok (.iconst 1, 1) := dq0 kk_4 (by decide +kernel)
theorem udX10_readTones_58 : decode cX10_readTones 58 = .ok (.ireturn, 1) := dq0 kk_172 (by decide +kernel)
set_option maxRecDepth 4000 in
theorem lp_X10_tones {p : Program} {l : Launch} {e : Env} {s : State} {m : MethodId} {args : Array Value} {below : List Frame} {meth : Method} {c : Code} {D : va_G} {B : Nat} {cy : Nat → ClassId}  {M : Mem} {R : Room} {T : Nat → Nat} {tn b : Nat} {y : Sy} {o : Wo} (F : CallFix p m c cX10_readTones 4 s args TB RX10) (hr : meth.sig.returnType = (some .boolean)) (hlocks : meth.locks = false) (hR1 : 4 ≤ R.frames) (hR2 : 91 ≤ R.locals) (hT : okT T tn) (kk : ∀ (i : Nat) (Nm : Mem) (o1 : Wo) (fu : Nat) (H : Heap) (locs : List Loc) (ls : Array Slot), (rtF T tn 301 (sk T tn b) o = none) → (∃ j : Nat, Nm.1 3 1 = zI (j : Int) ∧ j ≤ tn) → (FrD Nm M) → Wd D B cy s s.heap Nm H locs → lv_has ls 4 [(0, .ref (B + 3)), (1, .ref (B + 143))] → W p l e R s m args below meth c H locs 0 0 (MQ below (va_Qi (fun r M1 => RTQ T tn (rtF T tn 301 (sk T tn b) o) y M r M1) (fun M2 t2 => Wp D B cy M2 t2) (fun q2 => B ≤ q2)) args s 0 0 (fun q2 => B ≤ q2)) (F0 m 111 ls [])) : ∀ (f : Nat) (i : Nat) (Nm : Mem) (o1 : Wo) (fu : Nat), (DS Nm T tn i y o1) → (rtF T tn fu i o1 = rtF T tn 301 (sk T tn b) o) → (FrD Nm M) → (tn < i + fu) → (tn ≤ i + f) → ∀ (H : Heap) (locs : List Loc) (ls : Array Slot), Wd D B cy s s.heap Nm H locs → lv_has ls 4 [(0, .ref (B + 3)), (1, .ref (B + 143))] → W p l e R s m args below meth c H locs 0 0 (MQ below (va_Qi (fun r M1 => RTQ T tn (rtF T tn 301 (sk T tn b) o) y M r M1) (fun M2 t2 => Wp D B cy M2 t2) (fun q2 => B ≤ q2)) args s 0 0 (fun q2 => B ≤ q2)) (F0 m 15 ls []) := by
  have hx := F.1
  have hb := F.2.1
  have hN := hT.1
  intro f
  induction f with
  | zero =>
    intro i Nm o1 fu i0 i1 i2 i3 hf H locs ls w hl
    have hiN := i0.2.2.1
    have hn12 := i0.2.2.2.2.1.1
    refine lv_aload_n hx hb udX10_readTones_15 rfl (lv_at hl 0 rfl) ?_
    refine f_10_1 F w (a := 3) rfl utb_26 udX10_readTones_16 ?_
    refine r_val (v := (zI (i : Int))) (i0.2.1) ?_
    refine lv_aload_n hx hb udX10_readTones_19 rfl (lv_at hl 0 rfl) ?_
    refine f_10_0 F w (a := 3) rfl utb_25 udX10_readTones_20 ?_
    refine f_8_1 F w (a := 1) rfl utb_36 udX10_readTones_23 ?_
    refine r_val (v := (zI (tn : Int))) (i0.1.1) ?_
    refine z_icmp_ge (tgt := 111) hx hb (by omega) (by omega) udX10_readTones_26 (by decide) (fun c1 => ?_) (fun c1 => False.elim (by omega))
    exact kk i Nm o1 fu _ _ ls (i1.symm.trans (rt_e (by omega))) i0.o i2 w (lv_sub hl [0, 1] rfl)
  | succ f ih =>
    intro i Nm o1 fu i0 i1 i2 i3 hf H locs ls w hl
    have hiN := i0.2.2.1
    have hn12 := i0.2.2.2.2.1.1
    refine lv_aload_n hx hb udX10_readTones_15 rfl (lv_at hl 0 rfl) ?_
    refine f_10_1 F w (a := 3) rfl utb_26 udX10_readTones_16 ?_
    refine r_val (v := (zI (i : Int))) (i0.2.1) ?_
    refine lv_aload_n hx hb udX10_readTones_19 rfl (lv_at hl 0 rfl) ?_
    refine f_10_0 F w (a := 3) rfl utb_25 udX10_readTones_20 ?_
    refine f_8_1 F w (a := 1) rfl utb_36 udX10_readTones_23 ?_
    refine r_val (v := (zI (tn : Int))) (i0.1.1) ?_
    refine z_icmp_ge (tgt := 111) hx hb (by omega) (by omega) udX10_readTones_26 (by decide) (fun c1 => ?_) (fun c1 => ?_)
    · exact kk i Nm o1 fu _ _ ls (i1.symm.trans (rt_e (by omega))) i0.o i2 w (lv_sub hl [0, 1] rfl)
    · refine lv_aload_n hx hb udX10_readTones_29 rfl (lv_at hl 0 rfl) ?_
      refine f_10_0 F w (a := 3) rfl utb_25 udX10_readTones_30 ?_
      refine lv_aload_n hx hb udX10_readTones_33 rfl (lv_at hl 0 rfl) ?_
      refine f_10_1 F w (a := 3) rfl utb_26 udX10_readTones_34 ?_
      refine r_val (v := (zI (i : Int))) (i0.2.1) ?_
      refine x_Vi F w (As := [.int (zI (i : Int))]) (rest := []) (a := 1) (kd_lt (a := 1) (show kd 1 = (8, 0, 0) from rfl) (by decide)) (sh_8 rfl _ _) rfl (s_X8_signAt hT i0.1 (z := (i : Int)) (by omega)) ugv_X10_43 uhv_X8_signAt ⟨(by omega), (by omega)⟩ hl.1 rfl (Nat.le_of_ble_eq_true rfl) ⟨Nat.zero_le _, Nat.zero_le _⟩ udX10_readTones_37 (fun H locs w => ?_)
      have hg1 := sg_rg hT (i : Int)
      have hh1 := sg_c (T := T) (N := tn) i
      have ht1 := hT.2 i
      refine r_val (v := zI ((T i : Nat) : Int)) (congrArg zI (by omega)) ?_
      refine lv_istore_n (lv' := [(2, .int (zI (((T i) : Nat) : Int))), (0, .ref (B + 3)), (1, .ref (B + 143))]) hx hb udX10_readTones_40 rfl hl (by decide) rfl (fun ls hl => ?_)
      refine lv_iload_n hx hb udX10_readTones_41 rfl (lv_at hl 0 rfl) ?_
      refine lv_bipush (v := zI 47) hx hb udX10_readTones_42 (by decide) ?_
      refine z_icmp_ne (tgt := 59) hx hb (by omega) (by omega) udX10_readTones_44 (by decide) (fun c3 => ?_) (fun c3 => ?_)
      · refine va_ldcS F.1 F.2.1 F.2.2.2.1 (show vk_R "ToneLines$WordReader" 46 "lmh" (D.2 200 0) s from (w.2.2.2.2.1 0 (by decide)).1) udX10_readTones_59 ?_
        refine lv_iload_n hx hb udX10_readTones_61 rfl (lv_at hl 0 rfl) ?_
        refine lv_i2c (v := (zI (((T i) : Nat) : Int))) hx hb udX10_readTones_62 (i2c_z (by omega)) ?_
        refine k_Qi F w (As := [.int (zI (((T i) : Nat) : Int))]) (rest := []) (i := 0) (show 0 < NSL by decide) (t_indexOf1 (v := (T i)) (by omega)) ugv_X10_48 uhv_J0_indexOf_0f7a4 ⟨(by omega), (by omega)⟩ hl.1 rfl (Nat.le_of_ble_eq_true rfl) ⟨Nat.zero_le _, Nat.zero_le _⟩ udX10_readTones_63 (fun r M1 H locs hp w => ?_)
        obtain ⟨rfl, hMe⟩ := hp
        rw [hMe] at w
        have hkn := knd_a (((T i) : Nat) : Int)
        refine lv_istore_n (lv' := [(3, .int (zI (kndI (((T i) : Nat) : Int)))), (2, .int (zI (((T i) : Nat) : Int))), (0, .ref (B + 3)), (1, .ref (B + 143))]) hx hb udX10_readTones_66 rfl hl (by decide) rfl (fun ls hl => ?_)
        refine lv_iload_n hx hb udX10_readTones_67 rfl (lv_at hl 0 rfl) ?_
        refine z_if_lt (tgt := 80) hx hb (by omega) udX10_readTones_68 (by decide) (fun c4 => ?_) (fun c4 => ?_)
        · refine lv_iconst (v := zI 0) hx hb udX10_readTones_80 rfl ?_
          exact e_z F w hr hlocks (nar_z (by omega)) (Or.inr ⟨i1.symm.trans (rt_n (by omega) (by omega) (by omega)), rfl, i0.o, i2⟩) udX10_readTones_81
        · refine lv_aload_n hx hb udX10_readTones_71 rfl (lv_at hl 3 rfl) ?_
          refine f_9_0 F w (a := 143) rfl utb_40 udX10_readTones_72 ?_
          have hn4 := i0.2.2.2.2.1.1
          refine r_val (v := (zI ((o1.1 : Nat) : Int))) (i0.2.2.2.1.1) ?_
          refine lv_bipush (v := zI 12) hx hb udX10_readTones_75 (by decide) ?_
          refine z_icmp_lt (tgt := 82) hx hb (by omega) (by omega) udX10_readTones_77 (by decide) (fun c5 => ?_) (fun c5 => ?_)
          · refine lv_aload_n hx hb udX10_readTones_82 rfl (lv_at hl 3 rfl) ?_
            refine lv_aload_n hx hb udX10_readTones_83 rfl (lv_at hl 3 rfl) ?_
            refine f_9_0 F w (a := 143) rfl utb_40 udX10_readTones_84 ?_
            have hn5 := i0.2.2.2.2.1.1
            refine r_val (v := (zI ((o1.1 : Nat) : Int))) (i0.2.2.2.1.1) ?_
            refine lv_iload_n hx hb udX10_readTones_87 rfl (lv_at hl 0 rfl) ?_
            obtain ⟨kn, hkn2⟩ : ∃ kn : Nat, kndI ((T i : Nat) : Int) = (kn : Int) := ⟨Int.toNat (kndI ((T i : Nat) : Int)), by omega⟩
            refine r_val (v := zI ((kn : Nat) : Int)) (congrArg zI hkn2) ?_
            refine k_Vv F w (As := [.int (zI ((o1.1 : Nat) : Int)), .int (zI (kn : Int))]) (rest := []) (a := 143) (kd_lt (a := 143) (show kd 143 = (9, 0, 0) from rfl) (by decide)) (sh_9 rfl _ _) rfl (s_X9_insertTone (a := 143) rfl i0.2.2.2.1 i0.2.2.2.wf (t := o1.1) (x := kn) (by omega) (by omega) (by omega)) ugv_X10_56 uhv_X9_insertTone ⟨(by omega), (by omega)⟩ hl.1 rfl (Nat.le_of_ble_eq_true rfl) ⟨Nat.zero_le _, Nat.zero_le _⟩ udX10_readTones_88 (fun Ma6 H locs hp w => ?_)
            rcases hp with ⟨hW2, hF2⟩
            have hD2 : DS Ma6 T tn i y (tnO o1 kn) := DS.w i0 hF2 ⟨hW2, okW_ins i0.2.2.2.2.1 (by omega) (by omega) (by omega), i0.2.2.2.2.2⟩
            have hF3 : FrD Ma6 M := FrD.tr i2 (FrD.w hF2)
            refine lv_aload_n hx hb udX10_readTones_91 rfl (lv_at hl 2 rfl) ?_
            refine lv_aload_n hx hb udX10_readTones_92 rfl (lv_at hl 2 rfl) ?_
            refine f_10_0 F w (a := 3) rfl utb_25 udX10_readTones_93 ?_
            refine lv_aload_n hx hb udX10_readTones_96 rfl (lv_at hl 2 rfl) ?_
            refine f_10_1 F w (a := 3) rfl utb_26 udX10_readTones_97 ?_
            refine r_val (v := (zI (i : Int))) (hD2.2.1) ?_
            refine lv_iconst (v := zI 1) hx hb udX10_readTones_100 rfl ?_
            refine z_iadd (z := (((i + 1) : Nat) : Int)) hx hb udX10_readTones_101 (by omega) ?_
            refine x_Vi F w (As := [.int (zI (((i + 1) : Nat) : Int))]) (rest := [.ref (B + 3)]) (a := 1) (kd_lt (a := 1) (show kd 1 = (8, 0, 0) from rfl) (by decide)) (sh_8 rfl _ _) rfl (s_X8_skipBlanks hT hD2.1 (i := (i + 1)) (by omega)) ugv_X10_34 uhv_X8_skipBlanks ⟨(by omega), (by omega)⟩ hl.1 rfl (Nat.le_of_ble_eq_true rfl) ⟨Nat.zero_le _, Nat.zero_le _⟩ udX10_readTones_102 (fun H locs w => ?_)
            have hk6 := sk_le (T := T) (N := tn) (i := (i + 1)) (by omega)
            refine u_10_1 F w (a := 3) rfl utb_26 udX10_readTones_105 (fun H locs w => ?_)
            refine lv_goto (tgt := 15) hx hb udX10_readTones_108 (by decide) ?_
            have hD8 : DS (st Ma6 3 1 (zI (((sk T tn (i + 1)) : Nat) : Int))) T tn (sk T tn (i + 1)) y (tnO o1 kn) := DS.at hD2 (by omega)
            have fD8 : FrD (st Ma6 3 1 (zI (((sk T tn (i + 1)) : Nat) : Int))) M := FrD.tr hF3 FrD.s
            exact ih (sk T tn (i + 1)) (st Ma6 3 1 (zI (((sk T tn (i + 1)) : Nat) : Int))) (tnO o1 kn) (fu - 1) hD8 ((rt_y (by omega) (by omega) hkn2 (by omega) (by omega)).symm.trans i1) fD8 (by omega) (by omega) _ _ ls w (lv_sub hl [2, 3] rfl)
          · refine lv_iconst (v := zI 0) hx hb udX10_readTones_80 rfl ?_
            exact e_z F w hr hlocks (nar_z (by omega)) (Or.inr ⟨i1.symm.trans (rt_n (by omega) (by omega) (by omega)), rfl, i0.o, i2⟩) udX10_readTones_81
      · refine lv_aload_n hx hb udX10_readTones_47 rfl (lv_at hl 1 rfl) ?_
        refine lv_dup hx hb udX10_readTones_48 rfl ?_
        refine f_10_1 F w (a := 3) rfl utb_26 udX10_readTones_49 ?_
        refine r_val (v := (zI (i : Int))) (i0.2.1) ?_
        refine lv_iconst (v := zI 1) hx hb udX10_readTones_52 rfl ?_
        refine z_iadd (z := (((i + 1) : Nat) : Int)) hx hb udX10_readTones_53 (by omega) ?_
        refine u_10_1 F w (a := 3) rfl utb_26 udX10_readTones_54 (fun H locs w => ?_)
        refine lv_iconst (v := zI 1) hx hb udX10_readTones_57 rfl ?_
        have hD9 : DS (st Nm 3 1 (zI (((i + 1) : Nat) : Int))) T tn (i + 1) y o1 := DS.at i0 (by omega)
        have fD9 : FrD (st Nm 3 1 (zI (((i + 1) : Nat) : Int))) M := FrD.tr i2 FrD.s
        exact e_z F w hr hlocks (nar_z (by omega)) (Or.inl ⟨_, _, i1.symm.trans (rt_s (by omega) (by omega) (by omega)), rfl, hD9, fD9⟩) udX10_readTones_58
theorem udX10_readTones_0 : decode cX10_readTones 0 = .ok (.aload_n 0, 1) := dq0 kk_42 (by decide +kernel)
theorem udX10_readTones_1 : decode cX10_readTones 1 = .ok (.aload_n 0, 1) := dq0 kk_42 (by decide +kernel)
theorem udX10_readTones_2 : decode cX10_readTones 2 = .ok (.getfield 15, 3) := dqV kk_180 (by decide +kernel)
theorem udX10_readTones_5 : decode cX10_readTones 5 = .ok (.aload_n 0, 1) := dq0 kk_42 (by decide +kernel)
theorem udX10_readTones_6 : decode cX10_readTones 6 = .ok (.getfield 9, 3) := dqV kk_180 (by decide +kernel)
theorem udX10_readTones_9 : decode cX10_readTones 9 = .ok (.invokevirtual 34, 3) := dqV kk_182 (by decide +kernel)
theorem udX10_readTones_12 : decode cX10_readTones 12 = .ok (.putfield 9, 3) := dqV kk_181 (by decide +kernel)
theorem udX10_readTones_111 : decode cX10_readTones 111 = .ok (.iconst 0, 1) := dq0 kk_3 (by decide +kernel)
theorem udX10_readTones_112 : decode cX10_readTones 112 = .ok (.ireturn, 1) := dq0 kk_172 (by decide +kernel)
set_option maxRecDepth 4000 in
theorem s_X10_readTones {l : Launch} {D : va_G} {B : Nat} {cy : Nat → ClassId} {M : Mem} {T : Nat → Nat} {tn : Nat} (hT : okT T tn) {b : Nat} {y : Sy} {o : Wo} (hD : DS M T tn b y o) : Ci l D B cy yX10_readTones cX10_readTones 4 (some .boolean) 4 91 [.ref (B + 3), .ref (B + 143)] M (fun r M1 => RTQ T tn (rtF T tn 301 (sk T tn b) o) y M r M1) := by
  refine s_any (by decide) (Nat.le_of_ble_eq_true rfl) ?_
  intro p e s m below meth c ls F hr hlocks w hl
  have F : CallFix p m c cX10_readTones 4 s _ TB RX10 := F
  have hx := F.1
  have hb := F.2.1
  have hl : lv_has ls 4 [(0, .ref (B + 3)), (1, .ref (B + 143))] := hl
  have hN := hT.1
  have hbN := hD.2.2.1
  refine lv_aload_n hx hb udX10_readTones_0 rfl (lv_at hl 0 rfl) ?_
  refine lv_aload_n hx hb udX10_readTones_1 rfl (lv_at hl 0 rfl) ?_
  refine f_10_0 F w (a := 3) rfl utb_25 udX10_readTones_2 ?_
  refine lv_aload_n hx hb udX10_readTones_5 rfl (lv_at hl 0 rfl) ?_
  refine f_10_1 F w (a := 3) rfl utb_26 udX10_readTones_6 ?_
  refine r_val (v := (zI (b : Int))) (hD.2.1) ?_
  refine x_Vi F w (As := [.int (zI (b : Int))]) (rest := [.ref (B + 3)]) (a := 1) (kd_lt (a := 1) (show kd 1 = (8, 0, 0) from rfl) (by decide)) (sh_8 rfl _ _) rfl (s_X8_skipBlanks hT hD.1 (i := b) (by omega)) ugv_X10_34 uhv_X8_skipBlanks ⟨(Nat.le_of_ble_eq_true rfl), (Nat.le_of_ble_eq_true rfl)⟩ hl.1 rfl (Nat.le_of_ble_eq_true rfl) ⟨Nat.zero_le _, Nat.zero_le _⟩ udX10_readTones_9 (fun H locs w => ?_)
  have hk0 := sk_le (T := T) (N := tn) (i := b) (by omega)
  refine u_10_1 F w (a := 3) rfl utb_26 udX10_readTones_12 (fun H locs w => ?_)
  have hD2 : DS (st M 3 1 (zI (((sk T tn b) : Nat) : Int))) T tn (sk T tn b) y o := DS.at hD (by omega)
  have fD2 : FrD (st M 3 1 (zI (((sk T tn b) : Nat) : Int))) M := FrD.tr FrD.rf FrD.s
  refine lp_X10_tones  F hr hlocks (Nat.le_of_ble_eq_true rfl) (Nat.le_of_ble_eq_true rfl) hT (fun i Nm o1 fu H locs ls x0 x1 x2 w hl => ?_) tn (sk T tn b) (st M 3 1 (zI (((sk T tn b) : Nat) : Int))) o 301 hD2 rfl fD2 (by omega) (by omega) _ _ ls w (lv_sub hl [0, 1] rfl)
  refine lv_iconst (v := zI 0) hx hb udX10_readTones_111 rfl ?_
  exact e_z F w hr hlocks (nar_z (by omega)) (Or.inr ⟨x0, rfl, x1, x2⟩) udX10_readTones_112
theorem udX10_readSyllables_17 : decode cX10_readSyllables 17 = .ok (.aload_n 0, 1) := dq0 kk_42 (by decide +kernel)
theorem udX10_readSyllables_18 : decode cX10_readSyllables 18 = .ok (.getfield 9, 3) := dqV kk_180 (by decide +kernel)
theorem udX10_readSyllables_21 : decode cX10_readSyllables 21 = .ok (.aload_n 0, 1) := dq0 kk_42 (by decide +kernel)
theorem udX10_readSyllables_22 : decode cX10_readSyllables 22 = .ok (.getfield 15, 3) := dqV kk_180 (by decide +kernel)
theorem udX10_readSyllables_25 : decode cX10_readSyllables 25 = .ok (.getfield 40, 3) := dqV kk_180 (by decide +kernel)
theorem udX10_readSyllables_28 : decode cX10_readSyllables 28 = .ok (.if_icmp .ge 116, 3) := dqT kk_162 (by decide +kernel)
theorem udX10_readSyllables_31 : decode cX10_readSyllables 31 = .ok (.aload_n 0, 1) := dq0 kk_42 (by decide +kernel)
theorem udX10_readSyllables_32 : decode cX10_readSyllables 32 = .ok (.getfield 15, 3) := dqV kk_180 (by decide +kernel)
theorem udX10_readSyllables_35 : decode cX10_readSyllables 35 = .ok (.aload_n 0, 1) := dq0 kk_42 (by decide +kernel)
theorem udX10_readSyllables_36 : decode cX10_readSyllables 36 = .ok (.getfield 9, 3) := dqV kk_180 (by decide +kernel)
theorem udX10_readSyllables_39 : decode cX10_readSyllables 39 = .ok (.invokevirtual 43, 3) := dqV kk_182 (by decide +kernel)
theorem udX10_readSyllables_42 : decode cX10_readSyllables 42 = .ok (.istore_n 3, 1) := dq0 kk_62 (by decide +kernel)
theorem udX10_readSyllables_43 : decode cX10_readSyllables 43 = .ok (.iload_n 3, 1) := dq0 kk_29 (by decide +kernel)
theorem udX10_readSyllables_44 : decode cX10_readSyllables 44 = .ok (.bipush 47, 2) := dqS kk_16 (by decide +kernel)
theorem udX10_readSyllables_46 : decode cX10_readSyllables 46 = .ok (.if_icmp .ne 19, 3) := dqT kk_160 (by decide +kernel)
theorem udX10_readSyllables_65 : decode cX10_readSyllables 65 = .ok (.iload_n 3, 1) := dq0 kk_29 (by decide +kernel)
theorem udX10_readSyllables_66 : decode cX10_readSyllables 66 = .ok (.bipush 45, 2) := dqS kk_16 (by decide +kernel)
theorem udX10_readSyllables_68 : decode cX10_readSyllables 68 = .ok (.if_icmp .ne 12, 3) := dqT kk_160 (by decide +kernel)
theorem udX10_readSyllables_80 : decode cX10_readSyllables 80 = .ok (.iload_n 3, 1) := dq0 kk_29 (by decide +kernel)
theorem udX10_readSyllables_81 : decode cX10_readSyllables 81 = .ok (.bipush 111, 2) := dqS kk_16 (by decide +kernel)
theorem udX10_readSyllables_83 : decode cX10_readSyllables 83 = .ok (.if_icmp .eq 9, 3) := dqT kk_159 (by decide +kernel)
theorem udX10_readSyllables_92 : decode cX10_readSyllables 92 = .ok (.aload_n 1, 1) := dq0 kk_43 (by decide +kernel)
theorem udX10_readSyllables_93 : decode cX10_readSyllables 93 = .ok (.getfield 60, 3) := dqV kk_180 (by decide +kernel)
theorem utb_45 : Cond.fieldLink "ToneLines$WordReader" 60 "ToneLines$Word" "syllables" "I" ∈ TB := tbm (tc1 (List.mem_of_getElem? (i := 137) rfl)) rfl
theorem udX10_readSyllables_96 : decode cX10_readSyllables 96 = .ok (.bipush 12, 2) := dqS kk_16 (by decide +kernel)
theorem udX10_readSyllables_98 : decode cX10_readSyllables 98 = .ok (.if_icmp .ge 24, 3) := dqT kk_162 (by decide +kernel)
theorem udX10_readSyllables_122 : decode cX10_readSyllables 122 = .ok (.iconst 0, 1) := dq0 kk_3 (by decide +kernel)
theorem udX10_readSyllables_123 : decode cX10_readSyllables 123 = .ok (.ireturn, 1) := dq0 kk_172 (by decide +kernel)
theorem udX10_readSyllables_101 : decode cX10_readSyllables 101 = .ok (.aload_n 1, 1) := dq0 kk_43 (by decide +kernel)
theorem udX10_readSyllables_102 : decode cX10_readSyllables 102 = .ok (.iload_n 3, 1) := dq0 kk_29 (by decide +kernel)
theorem udX10_readSyllables_103 : decode cX10_readSyllables 103 = .ok (.bipush 79, 2) := dqS kk_16 (by decide +kernel)
theorem udX10_readSyllables_105 : decode cX10_readSyllables 105 = .ok (.if_icmp .ne 7, 3) := dqT kk_160 (by decide +kernel)
theorem udX10_readSyllables_112 : decode cX10_readSyllables 112 = .ok (.iconst 0, 1) := dq0 kk_3 (by decide +kernel)
theorem udX10_readSyllables_113 : decode cX10_readSyllables 113 = .ok (.iload_n 2, 1) := dq0 kk_28 (by decide +kernel)
theorem udX10_readSyllables_114 : decode cX10_readSyllables 114 = .ok (.invokevirtual 63, 3) := dqV kk_182 (by decide +kernel)
theorem utk_X9_addSyllable : Cond.code yX9_addSyllable cX9_addSyllable 3 none ∈ TB := wtk_X9_addSyllable
theorem ugc_X9_addSyllable : GoodIn TB (cw yX9_addSyllable cX9_addSyllable 3 none) := goodIn_c2 utk_X9_addSyllable
theorem utb_46 : Cond.methodLink "ToneLines$WordReader" 63 yX9_addSyllable ∈ TB := tbm (tc2 (List.mem_of_getElem? (i := 219) rfl)) rfl
theorem utb_47 : Cond.instanceMethod yX9_addSyllable ∈ TB := wtb_243
theorem utb_48 : Cond.selects "ToneLines$Word" yX9_addSyllable yX9_addSyllable ∈ TB := wtb_244
theorem ugv_X10_63 : GoodIn TB (wsV RX10 63 RX9 yX9_addSyllable (cw yX9_addSyllable cX9_addSyllable 3 none)) := goodIn_4 utb_46 utb_47 utb_48 utb_44 ugc_X9_addSyllable
theorem uhv_X9_addSyllable : yX9_addSyllable.cls = RX9 ∧ yX9_addSyllable.cls ≠ "java/lang/invoke/MethodHandle" ∧ yX9_addSyllable.cls ≠ "java/lang/invoke/VarHandle" ∧ (parseMethodDescriptor yX9_addSyllable.desc).map (fun d => d.parameters.length) = some 2 := whv_X9_addSyllable
theorem udX10_readSyllables_117 : decode cX10_readSyllables 117 = .ok (.iconst 0, 1) := dq0 kk_3 (by decide +kernel)
theorem udX10_readSyllables_118 : decode cX10_readSyllables 118 = .ok (.istore_n 2, 1) := dq0 kk_61 (by decide +kernel)
theorem udX10_readSyllables_119 : decode cX10_readSyllables 119 = .ok (.goto 5, 3) := dqT kk_167 (by decide +kernel)
theorem udX10_readSyllables_124 : decode cX10_readSyllables 124 = .ok (.aload_n 0, 1) := dq0 kk_42 (by decide +kernel)
theorem udX10_readSyllables_125 : decode cX10_readSyllables 125 = .ok (.aload_n 0, 1) := dq0 kk_42 (by decide +kernel)
theorem udX10_readSyllables_126 : decode cX10_readSyllables 126 = .ok (.getfield 15, 3) := dqV kk_180 (by decide +kernel)
theorem udX10_readSyllables_129 : decode cX10_readSyllables 129 = .ok (.aload_n 0, 1) := dq0 kk_42 (by decide +kernel)
theorem udX10_readSyllables_130 : decode cX10_readSyllables 130 = .ok (.getfield 9, 3) := dqV kk_180 (by decide +kernel)
theorem udX10_readSyllables_133 : decode cX10_readSyllables 133 = .ok (.iconst 1, 1) := dq0 kk_4 (by decide +kernel)
theorem udX10_readSyllables_134 : decode cX10_readSyllables 134 = .ok (.iadd, 1) := dq0 kk_96 (by decide +kernel)
theorem udX10_readSyllables_135 : decode cX10_readSyllables 135 = .ok (.invokevirtual 34, 3) := dqV kk_182 (by decide +kernel)
theorem udX10_readSyllables_138 : decode cX10_readSyllables 138 = .ok (.putfield 9, 3) := dqV kk_181 (by decide +kernel)
theorem udX10_readSyllables_141 : decode cX10_readSyllables 141 = .ok (.goto (-124), 3) := dqT kk_167 (by decide +kernel)
theorem udX10_readSyllables_108 : decode cX10_readSyllables 108 = .ok (.iconst 1, 1) := dq0 kk_4 (by decide +kernel)
theorem udX10_readSyllables_109 : decode cX10_readSyllables 109 = .ok (.goto 4, 3) := dqT kk_167 (by decide +kernel)
theorem udX10_readSyllables_86 : decode cX10_readSyllables 86 = .ok (.iload_n 3, 1) := dq0 kk_29 (by decide +kernel)
theorem udX10_readSyllables_87 : decode cX10_readSyllables 87 = .ok (.bipush 79, 2) := dqS kk_16 (by decide +kernel)
theorem udX10_readSyllables_89 : decode cX10_readSyllables 89 = .ok (.if_icmp .ne 33, 3) := dqT kk_160 (by decide +kernel)
theorem udX10_readSyllables_71 : decode cX10_readSyllables 71 = .ok (.iload_n 2, 1) := dq0 kk_28 (by decide +kernel)
theorem udX10_readSyllables_72 : decode cX10_readSyllables 72 = .ok (.ifCond .ne 8, 3) := dqT kk_154 (by decide +kernel)
theorem udX10_readSyllables_75 : decode cX10_readSyllables 75 = .ok (.iconst 1, 1) := dq0 kk_4 (by decide +kernel)
theorem udX10_readSyllables_76 : decode cX10_readSyllables 76 = .ok (.istore_n 2, 1) := dq0 kk_61 (by decide +kernel)
theorem udX10_readSyllables_77 : decode cX10_readSyllables 77 = .ok (.goto 47, 3) := dqT kk_167 (by decide +kernel)
theorem udX10_readSyllables_49 : decode cX10_readSyllables 49 = .ok (.iload_n 2, 1) := dq0 kk_28 (by decide +kernel)
theorem udX10_readSyllables_50 : decode cX10_readSyllables 50 = .ok (.ifCond .ne 15, 3) := dqT kk_154 (by decide +kernel)
theorem udX10_readSyllables_53 : decode cX10_readSyllables 53 = .ok (.aload_n 0, 1) := dq0 kk_42 (by decide +kernel)
theorem udX10_readSyllables_54 : decode cX10_readSyllables 54 = .ok (.dup, 1) := dq0 kk_89 (by decide +kernel)
theorem udX10_readSyllables_55 : decode cX10_readSyllables 55 = .ok (.getfield 9, 3) := dqV kk_180 (by decide +kernel)
theorem udX10_readSyllables_58 : decode cX10_readSyllables 58 = .ok (.iconst 1, 1) := dq0 kk_4 (by decide +kernel)
theorem udX10_readSyllables_59 : decode cX10_readSyllables 59 = .ok (.iadd, 1) := dq0 kk_96 (by decide +kernel)
theorem udX10_readSyllables_60 : decode cX10_readSyllables 60 = .ok (.putfield 9, 3) := dqV kk_181 (by decide +kernel)
theorem udX10_readSyllables_63 : decode cX10_readSyllables 63 = .ok (.iconst 1, 1) := dq0 kk_4 (by decide +kernel)
theorem udX10_readSyllables_64 : decode cX10_readSyllables 64 = .ok (.ireturn, 1) := dq0 kk_172 (by decide +kernel)
set_option maxRecDepth 4000 in
theorem lp_X10_syllables {p : Program} {l : Launch} {e : Env} {s : State} {m : MethodId} {args : Array Value} {below : List Frame} {meth : Method} {c : Code} {D : va_G} {B : Nat} {cy : Nat → ClassId}  {M : Mem} {R : Room} {T : Nat → Nat} {tn b : Nat} {y : Sy} {o : Wo} (F : CallFix p m c cX10_readSyllables 4 s args TB RX10) (hr : meth.sig.returnType = (some .boolean)) (hlocks : meth.locks = false) (hR1 : 2 ≤ R.frames) (hR2 : 46 ≤ R.locals) (hT : okT T tn) (kk : ∀ (i : Nat) (e9 : Nat) (Nm : Mem) (y1 : Sy) (fu : Nat) (H : Heap) (locs : List Loc) (ls : Array Slot), (rsF T tn 301 (sk T tn b) 0 y = none) → (∃ j : Nat, Nm.1 3 1 = zI (j : Int) ∧ j ≤ tn) → (FrD Nm M) → Wd D B cy s s.heap Nm H locs → lv_has ls 4 [(0, .ref (B + 3)), (1, .ref (B + 143))] → W p l e R s m args below meth c H locs 0 0 (MQ below (va_Qi (fun r M1 => RSQ T tn (rsF T tn 301 (sk T tn b) 0 y) o M r M1) (fun M2 t2 => Wp D B cy M2 t2) (fun q2 => B ≤ q2)) args s 0 0 (fun q2 => B ≤ q2)) (F0 m 144 ls [])) : ∀ (f : Nat) (i : Nat) (e9 : Nat) (Nm : Mem) (y1 : Sy) (fu : Nat), (DS Nm T tn i y1 o) → (rsF T tn fu i e9 y1 = rsF T tn 301 (sk T tn b) 0 y) → (FrD Nm M) → (tn < i + fu) → (e9 ≤ 1) → (tn ≤ i + f) → ∀ (H : Heap) (locs : List Loc) (ls : Array Slot), Wd D B cy s s.heap Nm H locs → lv_has ls 4 [(2, .int (zI (e9 : Int))), (0, .ref (B + 3)), (1, .ref (B + 143))] → W p l e R s m args below meth c H locs 0 0 (MQ below (va_Qi (fun r M1 => RSQ T tn (rsF T tn 301 (sk T tn b) 0 y) o M r M1) (fun M2 t2 => Wp D B cy M2 t2) (fun q2 => B ≤ q2)) args s 0 0 (fun q2 => B ≤ q2)) (F0 m 17 ls []) := by
  have hx := F.1
  have hb := F.2.1
  have hN := hT.1
  intro f
  induction f with
  | zero =>
    intro i e9 Nm y1 fu i0 i1 i2 i3 i4 hf H locs ls w hl
    have hiN := i0.2.2.1
    have hq12 := i0.2.2.2.2.1.2.1
    refine lv_aload_n hx hb udX10_readSyllables_17 rfl (lv_at hl 1 rfl) ?_
    refine f_10_1 F w (a := 3) rfl utb_26 udX10_readSyllables_18 ?_
    refine r_val (v := (zI (i : Int))) (i0.2.1) ?_
    refine lv_aload_n hx hb udX10_readSyllables_21 rfl (lv_at hl 1 rfl) ?_
    refine f_10_0 F w (a := 3) rfl utb_25 udX10_readSyllables_22 ?_
    refine f_8_1 F w (a := 1) rfl utb_36 udX10_readSyllables_25 ?_
    refine r_val (v := (zI (tn : Int))) (i0.1.1) ?_
    refine z_icmp_ge (tgt := 144) hx hb (by omega) (by omega) udX10_readSyllables_28 (by decide) (fun c1 => ?_) (fun c1 => False.elim (by omega))
    exact kk i e9 Nm y1 fu _ _ ls (i1.symm.trans (rs_e (by omega))) i0.o i2 w (lv_sub hl [1, 2] rfl)
  | succ f ih =>
    intro i e9 Nm y1 fu i0 i1 i2 i3 i4 hf H locs ls w hl
    have hiN := i0.2.2.1
    have hq12 := i0.2.2.2.2.1.2.1
    refine lv_aload_n hx hb udX10_readSyllables_17 rfl (lv_at hl 1 rfl) ?_
    refine f_10_1 F w (a := 3) rfl utb_26 udX10_readSyllables_18 ?_
    refine r_val (v := (zI (i : Int))) (i0.2.1) ?_
    refine lv_aload_n hx hb udX10_readSyllables_21 rfl (lv_at hl 1 rfl) ?_
    refine f_10_0 F w (a := 3) rfl utb_25 udX10_readSyllables_22 ?_
    refine f_8_1 F w (a := 1) rfl utb_36 udX10_readSyllables_25 ?_
    refine r_val (v := (zI (tn : Int))) (i0.1.1) ?_
    refine z_icmp_ge (tgt := 144) hx hb (by omega) (by omega) udX10_readSyllables_28 (by decide) (fun c1 => ?_) (fun c1 => ?_)
    · exact kk i e9 Nm y1 fu _ _ ls (i1.symm.trans (rs_e (by omega))) i0.o i2 w (lv_sub hl [1, 2] rfl)
    · refine lv_aload_n hx hb udX10_readSyllables_31 rfl (lv_at hl 1 rfl) ?_
      refine f_10_0 F w (a := 3) rfl utb_25 udX10_readSyllables_32 ?_
      refine lv_aload_n hx hb udX10_readSyllables_35 rfl (lv_at hl 1 rfl) ?_
      refine f_10_1 F w (a := 3) rfl utb_26 udX10_readSyllables_36 ?_
      refine r_val (v := (zI (i : Int))) (i0.2.1) ?_
      refine x_Vi F w (As := [.int (zI (i : Int))]) (rest := []) (a := 1) (kd_lt (a := 1) (show kd 1 = (8, 0, 0) from rfl) (by decide)) (sh_8 rfl _ _) rfl (s_X8_signAt hT i0.1 (z := (i : Int)) (by omega)) ugv_X10_43 uhv_X8_signAt ⟨(by omega), (by omega)⟩ hl.1 rfl (Nat.le_of_ble_eq_true rfl) ⟨Nat.zero_le _, Nat.zero_le _⟩ udX10_readSyllables_39 (fun H locs w => ?_)
      have hg1 := sg_rg hT (i : Int)
      have hh1 := sg_c (T := T) (N := tn) i
      have ht1 := hT.2 i
      refine r_val (v := zI ((T i : Nat) : Int)) (congrArg zI (by omega)) ?_
      have hho := hO_a (T i)
      refine lv_istore_n (lv' := [(3, .int (zI (((T i) : Nat) : Int))), (2, .int (zI (e9 : Int))), (0, .ref (B + 3)), (1, .ref (B + 143))]) hx hb udX10_readSyllables_42 rfl hl (by decide) rfl (fun ls hl => ?_)
      refine lv_iload_n hx hb udX10_readSyllables_43 rfl (lv_at hl 0 rfl) ?_
      refine lv_bipush (v := zI 47) hx hb udX10_readSyllables_44 (by decide) ?_
      refine z_icmp_ne (tgt := 65) hx hb (by omega) (by omega) udX10_readSyllables_46 (by decide) (fun c3 => ?_) (fun c3 => ?_)
      · refine lv_iload_n hx hb udX10_readSyllables_65 rfl (lv_at hl 0 rfl) ?_
        refine lv_bipush (v := zI 45) hx hb udX10_readSyllables_66 (by decide) ?_
        refine z_icmp_ne (tgt := 80) hx hb (by omega) (by omega) udX10_readSyllables_68 (by decide) (fun c4 => ?_) (fun c4 => ?_)
        · refine lv_iload_n hx hb udX10_readSyllables_80 rfl (lv_at hl 0 rfl) ?_
          refine lv_bipush (v := zI 111) hx hb udX10_readSyllables_81 (by decide) ?_
          refine z_icmp_eq (tgt := 92) hx hb (by omega) (by omega) udX10_readSyllables_83 (by decide) (fun c5 => ?_) (fun c5 => ?_)
          · refine lv_aload_n hx hb udX10_readSyllables_92 rfl (lv_at hl 3 rfl) ?_
            refine f_9_1 F w (a := 143) rfl utb_45 udX10_readSyllables_93 ?_
            have hq5 := i0.2.2.2.2.1.2.1
            refine r_val (v := (zI ((y1.1 : Nat) : Int))) (i0.2.2.2.1.2.1) ?_
            refine lv_bipush (v := zI 12) hx hb udX10_readSyllables_96 (by decide) ?_
            refine z_icmp_ge (tgt := 122) hx hb (by omega) (by omega) udX10_readSyllables_98 (by decide) (fun c6 => ?_) (fun c6 => ?_)
            · refine lv_iconst (v := zI 0) hx hb udX10_readSyllables_122 rfl ?_
              exact e_z F w hr hlocks (nar_z (by omega)) (Or.inr ⟨i1.symm.trans (rs_n (by omega) (by omega) (by omega)), rfl, i0.o, i2⟩) udX10_readSyllables_123
            · refine lv_aload_n hx hb udX10_readSyllables_101 rfl (lv_at hl 3 rfl) ?_
              refine lv_iload_n hx hb udX10_readSyllables_102 rfl (lv_at hl 0 rfl) ?_
              refine lv_bipush (v := zI 79) hx hb udX10_readSyllables_103 (by decide) ?_
              refine z_icmp_ne (tgt := 112) hx hb (by omega) (by omega) udX10_readSyllables_105 (by decide) (fun c7 => ?_) (fun c7 => ?_)
              · refine lv_iconst (v := zI 0) hx hb udX10_readSyllables_112 rfl ?_
                refine lv_iload_n hx hb udX10_readSyllables_113 rfl (lv_at hl 1 rfl) ?_
                refine k_Vv F w (As := [.int (zI 0), .int (zI (e9 : Int))]) (rest := []) (a := 143) (kd_lt (a := 143) (show kd 143 = (9, 0, 0) from rfl) (by decide)) (sh_9 rfl _ _) rfl (s_X9_addSyllable (a := 143) rfl i0.2.2.2.1 i0.2.2.2.wf (x := 0) (y := e9) (by omega) (by omega) (by omega)) ugv_X10_63 uhv_X9_addSyllable ⟨(by omega), (by omega)⟩ hl.1 rfl (Nat.le_of_ble_eq_true rfl) ⟨Nat.zero_le _, Nat.zero_le _⟩ udX10_readSyllables_114 (fun Ma8 H locs hp w => ?_)
                rcases hp with ⟨hW2, hF2⟩
                have hD2 : DS Ma8 T tn i (syO y1 0 e9) o := DS.w i0 hF2 (CW.sy i0.2.2.2 hW2 (by omega))
                have hF3 : FrD Ma8 M := FrD.tr i2 (FrD.w hF2)
                refine lv_iconst (v := zI 0) hx hb udX10_readSyllables_117 rfl ?_
                refine lv_istore_n (lv' := [(2, .int (zI 0)), (3, .int (zI (((T i) : Nat) : Int))), (0, .ref (B + 3)), (1, .ref (B + 143))]) hx hb udX10_readSyllables_118 rfl hl (by decide) rfl (fun ls hl => ?_)
                refine lv_goto (tgt := 124) hx hb udX10_readSyllables_119 (by decide) ?_
                refine lv_aload_n hx hb udX10_readSyllables_124 rfl (lv_at hl 2 rfl) ?_
                refine lv_aload_n hx hb udX10_readSyllables_125 rfl (lv_at hl 2 rfl) ?_
                refine f_10_0 F w (a := 3) rfl utb_25 udX10_readSyllables_126 ?_
                refine lv_aload_n hx hb udX10_readSyllables_129 rfl (lv_at hl 2 rfl) ?_
                refine f_10_1 F w (a := 3) rfl utb_26 udX10_readSyllables_130 ?_
                refine r_val (v := (zI (i : Int))) (hD2.2.1) ?_
                refine lv_iconst (v := zI 1) hx hb udX10_readSyllables_133 rfl ?_
                refine z_iadd (z := (((i + 1) : Nat) : Int)) hx hb udX10_readSyllables_134 (by omega) ?_
                refine x_Vi F w (As := [.int (zI (((i + 1) : Nat) : Int))]) (rest := [.ref (B + 3)]) (a := 1) (kd_lt (a := 1) (show kd 1 = (8, 0, 0) from rfl) (by decide)) (sh_8 rfl _ _) rfl (s_X8_skipBlanks hT hD2.1 (i := (i + 1)) (by omega)) ugv_X10_34 uhv_X8_skipBlanks ⟨(by omega), (by omega)⟩ hl.1 rfl (Nat.le_of_ble_eq_true rfl) ⟨Nat.zero_le _, Nat.zero_le _⟩ udX10_readSyllables_135 (fun H locs w => ?_)
                have hk8 := sk_le (T := T) (N := tn) (i := (i + 1)) (by omega)
                refine u_10_1 F w (a := 3) rfl utb_26 udX10_readSyllables_138 (fun H locs w => ?_)
                refine lv_goto (tgt := 17) hx hb udX10_readSyllables_141 (by decide) ?_
                have hD10 : DS (st Ma8 3 1 (zI (((sk T tn (i + 1)) : Nat) : Int))) T tn (sk T tn (i + 1)) (syO y1 0 e9) o := DS.at hD2 (by omega)
                have fD10 : FrD (st Ma8 3 1 (zI (((sk T tn (i + 1)) : Nat) : Int))) M := FrD.tr hF3 FrD.s
                exact ih (sk T tn (i + 1)) 0 (st Ma8 3 1 (zI (((sk T tn (i + 1)) : Nat) : Int))) (syO y1 0 e9) (fu - 1) hD10 ((rs_y (by omega) (by omega) (by omega) (show hO (T i) = 0 by omega) (by omega)).symm.trans i1) fD10 (by omega) (by omega) (by omega) _ _ ls w (lv_sub hl [0, 2, 3] rfl)
              · refine lv_iconst (v := zI 1) hx hb udX10_readSyllables_108 rfl ?_
                refine lv_goto (tgt := 113) hx hb udX10_readSyllables_109 (by decide) ?_
                refine lv_iload_n hx hb udX10_readSyllables_113 rfl (lv_at hl 1 rfl) ?_
                refine k_Vv F w (As := [.int (zI 1), .int (zI (e9 : Int))]) (rest := []) (a := 143) (kd_lt (a := 143) (show kd 143 = (9, 0, 0) from rfl) (by decide)) (sh_9 rfl _ _) rfl (s_X9_addSyllable (a := 143) rfl i0.2.2.2.1 i0.2.2.2.wf (x := 1) (y := e9) (by omega) (by omega) (by omega)) ugv_X10_63 uhv_X9_addSyllable ⟨(by omega), (by omega)⟩ hl.1 rfl (Nat.le_of_ble_eq_true rfl) ⟨Nat.zero_le _, Nat.zero_le _⟩ udX10_readSyllables_114 (fun Ma11 H locs hp w => ?_)
                rcases hp with ⟨hW2, hF2⟩
                have hD2 : DS Ma11 T tn i (syO y1 1 e9) o := DS.w i0 hF2 (CW.sy i0.2.2.2 hW2 (by omega))
                have hF3 : FrD Ma11 M := FrD.tr i2 (FrD.w hF2)
                refine lv_iconst (v := zI 0) hx hb udX10_readSyllables_117 rfl ?_
                refine lv_istore_n (lv' := [(2, .int (zI 0)), (3, .int (zI (((T i) : Nat) : Int))), (0, .ref (B + 3)), (1, .ref (B + 143))]) hx hb udX10_readSyllables_118 rfl hl (by decide) rfl (fun ls hl => ?_)
                refine lv_goto (tgt := 124) hx hb udX10_readSyllables_119 (by decide) ?_
                refine lv_aload_n hx hb udX10_readSyllables_124 rfl (lv_at hl 2 rfl) ?_
                refine lv_aload_n hx hb udX10_readSyllables_125 rfl (lv_at hl 2 rfl) ?_
                refine f_10_0 F w (a := 3) rfl utb_25 udX10_readSyllables_126 ?_
                refine lv_aload_n hx hb udX10_readSyllables_129 rfl (lv_at hl 2 rfl) ?_
                refine f_10_1 F w (a := 3) rfl utb_26 udX10_readSyllables_130 ?_
                refine r_val (v := (zI (i : Int))) (hD2.2.1) ?_
                refine lv_iconst (v := zI 1) hx hb udX10_readSyllables_133 rfl ?_
                refine z_iadd (z := (((i + 1) : Nat) : Int)) hx hb udX10_readSyllables_134 (by omega) ?_
                refine x_Vi F w (As := [.int (zI (((i + 1) : Nat) : Int))]) (rest := [.ref (B + 3)]) (a := 1) (kd_lt (a := 1) (show kd 1 = (8, 0, 0) from rfl) (by decide)) (sh_8 rfl _ _) rfl (s_X8_skipBlanks hT hD2.1 (i := (i + 1)) (by omega)) ugv_X10_34 uhv_X8_skipBlanks ⟨(by omega), (by omega)⟩ hl.1 rfl (Nat.le_of_ble_eq_true rfl) ⟨Nat.zero_le _, Nat.zero_le _⟩ udX10_readSyllables_135 (fun H locs w => ?_)
                have hk11 := sk_le (T := T) (N := tn) (i := (i + 1)) (by omega)
                refine u_10_1 F w (a := 3) rfl utb_26 udX10_readSyllables_138 (fun H locs w => ?_)
                refine lv_goto (tgt := 17) hx hb udX10_readSyllables_141 (by decide) ?_
                have hD13 : DS (st Ma11 3 1 (zI (((sk T tn (i + 1)) : Nat) : Int))) T tn (sk T tn (i + 1)) (syO y1 1 e9) o := DS.at hD2 (by omega)
                have fD13 : FrD (st Ma11 3 1 (zI (((sk T tn (i + 1)) : Nat) : Int))) M := FrD.tr hF3 FrD.s
                exact ih (sk T tn (i + 1)) 0 (st Ma11 3 1 (zI (((sk T tn (i + 1)) : Nat) : Int))) (syO y1 1 e9) (fu - 1) hD13 ((rs_y (by omega) (by omega) (by omega) (show hO (T i) = 1 by omega) (by omega)).symm.trans i1) fD13 (by omega) (by omega) (by omega) _ _ ls w (lv_sub hl [0, 2, 3] rfl)
          · refine lv_iload_n hx hb udX10_readSyllables_86 rfl (lv_at hl 0 rfl) ?_
            refine lv_bipush (v := zI 79) hx hb udX10_readSyllables_87 (by decide) ?_
            refine z_icmp_ne (tgt := 122) hx hb (by omega) (by omega) udX10_readSyllables_89 (by decide) (fun c14 => ?_) (fun c14 => ?_)
            · refine lv_iconst (v := zI 0) hx hb udX10_readSyllables_122 rfl ?_
              exact e_z F w hr hlocks (nar_z (by omega)) (Or.inr ⟨i1.symm.trans (rs_n (by omega) (by omega) (by omega)), rfl, i0.o, i2⟩) udX10_readSyllables_123
            · refine lv_aload_n hx hb udX10_readSyllables_92 rfl (lv_at hl 3 rfl) ?_
              refine f_9_1 F w (a := 143) rfl utb_45 udX10_readSyllables_93 ?_
              have hq14 := i0.2.2.2.2.1.2.1
              refine r_val (v := (zI ((y1.1 : Nat) : Int))) (i0.2.2.2.1.2.1) ?_
              refine lv_bipush (v := zI 12) hx hb udX10_readSyllables_96 (by decide) ?_
              refine z_icmp_ge (tgt := 122) hx hb (by omega) (by omega) udX10_readSyllables_98 (by decide) (fun c15 => ?_) (fun c15 => ?_)
              · refine lv_iconst (v := zI 0) hx hb udX10_readSyllables_122 rfl ?_
                exact e_z F w hr hlocks (nar_z (by omega)) (Or.inr ⟨i1.symm.trans (rs_n (by omega) (by omega) (by omega)), rfl, i0.o, i2⟩) udX10_readSyllables_123
              · refine lv_aload_n hx hb udX10_readSyllables_101 rfl (lv_at hl 3 rfl) ?_
                refine lv_iload_n hx hb udX10_readSyllables_102 rfl (lv_at hl 0 rfl) ?_
                refine lv_bipush (v := zI 79) hx hb udX10_readSyllables_103 (by decide) ?_
                refine z_icmp_ne (tgt := 112) hx hb (by omega) (by omega) udX10_readSyllables_105 (by decide) (fun c16 => ?_) (fun c16 => ?_)
                · refine lv_iconst (v := zI 0) hx hb udX10_readSyllables_112 rfl ?_
                  refine lv_iload_n hx hb udX10_readSyllables_113 rfl (lv_at hl 1 rfl) ?_
                  refine k_Vv F w (As := [.int (zI 0), .int (zI (e9 : Int))]) (rest := []) (a := 143) (kd_lt (a := 143) (show kd 143 = (9, 0, 0) from rfl) (by decide)) (sh_9 rfl _ _) rfl (s_X9_addSyllable (a := 143) rfl i0.2.2.2.1 i0.2.2.2.wf (x := 0) (y := e9) (by omega) (by omega) (by omega)) ugv_X10_63 uhv_X9_addSyllable ⟨(by omega), (by omega)⟩ hl.1 rfl (Nat.le_of_ble_eq_true rfl) ⟨Nat.zero_le _, Nat.zero_le _⟩ udX10_readSyllables_114 (fun Ma17 H locs hp w => ?_)
                  rcases hp with ⟨hW2, hF2⟩
                  have hD2 : DS Ma17 T tn i (syO y1 0 e9) o := DS.w i0 hF2 (CW.sy i0.2.2.2 hW2 (by omega))
                  have hF3 : FrD Ma17 M := FrD.tr i2 (FrD.w hF2)
                  refine lv_iconst (v := zI 0) hx hb udX10_readSyllables_117 rfl ?_
                  refine lv_istore_n (lv' := [(2, .int (zI 0)), (3, .int (zI (((T i) : Nat) : Int))), (0, .ref (B + 3)), (1, .ref (B + 143))]) hx hb udX10_readSyllables_118 rfl hl (by decide) rfl (fun ls hl => ?_)
                  refine lv_goto (tgt := 124) hx hb udX10_readSyllables_119 (by decide) ?_
                  refine lv_aload_n hx hb udX10_readSyllables_124 rfl (lv_at hl 2 rfl) ?_
                  refine lv_aload_n hx hb udX10_readSyllables_125 rfl (lv_at hl 2 rfl) ?_
                  refine f_10_0 F w (a := 3) rfl utb_25 udX10_readSyllables_126 ?_
                  refine lv_aload_n hx hb udX10_readSyllables_129 rfl (lv_at hl 2 rfl) ?_
                  refine f_10_1 F w (a := 3) rfl utb_26 udX10_readSyllables_130 ?_
                  refine r_val (v := (zI (i : Int))) (hD2.2.1) ?_
                  refine lv_iconst (v := zI 1) hx hb udX10_readSyllables_133 rfl ?_
                  refine z_iadd (z := (((i + 1) : Nat) : Int)) hx hb udX10_readSyllables_134 (by omega) ?_
                  refine x_Vi F w (As := [.int (zI (((i + 1) : Nat) : Int))]) (rest := [.ref (B + 3)]) (a := 1) (kd_lt (a := 1) (show kd 1 = (8, 0, 0) from rfl) (by decide)) (sh_8 rfl _ _) rfl (s_X8_skipBlanks hT hD2.1 (i := (i + 1)) (by omega)) ugv_X10_34 uhv_X8_skipBlanks ⟨(by omega), (by omega)⟩ hl.1 rfl (Nat.le_of_ble_eq_true rfl) ⟨Nat.zero_le _, Nat.zero_le _⟩ udX10_readSyllables_135 (fun H locs w => ?_)
                  have hk17 := sk_le (T := T) (N := tn) (i := (i + 1)) (by omega)
                  refine u_10_1 F w (a := 3) rfl utb_26 udX10_readSyllables_138 (fun H locs w => ?_)
                  refine lv_goto (tgt := 17) hx hb udX10_readSyllables_141 (by decide) ?_
                  have hD19 : DS (st Ma17 3 1 (zI (((sk T tn (i + 1)) : Nat) : Int))) T tn (sk T tn (i + 1)) (syO y1 0 e9) o := DS.at hD2 (by omega)
                  have fD19 : FrD (st Ma17 3 1 (zI (((sk T tn (i + 1)) : Nat) : Int))) M := FrD.tr hF3 FrD.s
                  exact ih (sk T tn (i + 1)) 0 (st Ma17 3 1 (zI (((sk T tn (i + 1)) : Nat) : Int))) (syO y1 0 e9) (fu - 1) hD19 ((rs_y (by omega) (by omega) (by omega) (show hO (T i) = 0 by omega) (by omega)).symm.trans i1) fD19 (by omega) (by omega) (by omega) _ _ ls w (lv_sub hl [0, 2, 3] rfl)
                · refine lv_iconst (v := zI 1) hx hb udX10_readSyllables_108 rfl ?_
                  refine lv_goto (tgt := 113) hx hb udX10_readSyllables_109 (by decide) ?_
                  refine lv_iload_n hx hb udX10_readSyllables_113 rfl (lv_at hl 1 rfl) ?_
                  refine k_Vv F w (As := [.int (zI 1), .int (zI (e9 : Int))]) (rest := []) (a := 143) (kd_lt (a := 143) (show kd 143 = (9, 0, 0) from rfl) (by decide)) (sh_9 rfl _ _) rfl (s_X9_addSyllable (a := 143) rfl i0.2.2.2.1 i0.2.2.2.wf (x := 1) (y := e9) (by omega) (by omega) (by omega)) ugv_X10_63 uhv_X9_addSyllable ⟨(by omega), (by omega)⟩ hl.1 rfl (Nat.le_of_ble_eq_true rfl) ⟨Nat.zero_le _, Nat.zero_le _⟩ udX10_readSyllables_114 (fun Ma20 H locs hp w => ?_)
                  rcases hp with ⟨hW2, hF2⟩
                  have hD2 : DS Ma20 T tn i (syO y1 1 e9) o := DS.w i0 hF2 (CW.sy i0.2.2.2 hW2 (by omega))
                  have hF3 : FrD Ma20 M := FrD.tr i2 (FrD.w hF2)
                  refine lv_iconst (v := zI 0) hx hb udX10_readSyllables_117 rfl ?_
                  refine lv_istore_n (lv' := [(2, .int (zI 0)), (3, .int (zI (((T i) : Nat) : Int))), (0, .ref (B + 3)), (1, .ref (B + 143))]) hx hb udX10_readSyllables_118 rfl hl (by decide) rfl (fun ls hl => ?_)
                  refine lv_goto (tgt := 124) hx hb udX10_readSyllables_119 (by decide) ?_
                  refine lv_aload_n hx hb udX10_readSyllables_124 rfl (lv_at hl 2 rfl) ?_
                  refine lv_aload_n hx hb udX10_readSyllables_125 rfl (lv_at hl 2 rfl) ?_
                  refine f_10_0 F w (a := 3) rfl utb_25 udX10_readSyllables_126 ?_
                  refine lv_aload_n hx hb udX10_readSyllables_129 rfl (lv_at hl 2 rfl) ?_
                  refine f_10_1 F w (a := 3) rfl utb_26 udX10_readSyllables_130 ?_
                  refine r_val (v := (zI (i : Int))) (hD2.2.1) ?_
                  refine lv_iconst (v := zI 1) hx hb udX10_readSyllables_133 rfl ?_
                  refine z_iadd (z := (((i + 1) : Nat) : Int)) hx hb udX10_readSyllables_134 (by omega) ?_
                  refine x_Vi F w (As := [.int (zI (((i + 1) : Nat) : Int))]) (rest := [.ref (B + 3)]) (a := 1) (kd_lt (a := 1) (show kd 1 = (8, 0, 0) from rfl) (by decide)) (sh_8 rfl _ _) rfl (s_X8_skipBlanks hT hD2.1 (i := (i + 1)) (by omega)) ugv_X10_34 uhv_X8_skipBlanks ⟨(by omega), (by omega)⟩ hl.1 rfl (Nat.le_of_ble_eq_true rfl) ⟨Nat.zero_le _, Nat.zero_le _⟩ udX10_readSyllables_135 (fun H locs w => ?_)
                  have hk20 := sk_le (T := T) (N := tn) (i := (i + 1)) (by omega)
                  refine u_10_1 F w (a := 3) rfl utb_26 udX10_readSyllables_138 (fun H locs w => ?_)
                  refine lv_goto (tgt := 17) hx hb udX10_readSyllables_141 (by decide) ?_
                  have hD22 : DS (st Ma20 3 1 (zI (((sk T tn (i + 1)) : Nat) : Int))) T tn (sk T tn (i + 1)) (syO y1 1 e9) o := DS.at hD2 (by omega)
                  have fD22 : FrD (st Ma20 3 1 (zI (((sk T tn (i + 1)) : Nat) : Int))) M := FrD.tr hF3 FrD.s
                  exact ih (sk T tn (i + 1)) 0 (st Ma20 3 1 (zI (((sk T tn (i + 1)) : Nat) : Int))) (syO y1 1 e9) (fu - 1) hD22 ((rs_y (by omega) (by omega) (by omega) (show hO (T i) = 1 by omega) (by omega)).symm.trans i1) fD22 (by omega) (by omega) (by omega) _ _ ls w (lv_sub hl [0, 2, 3] rfl)
        · refine lv_iload_n hx hb udX10_readSyllables_71 rfl (lv_at hl 1 rfl) ?_
          refine z_if_ne (tgt := 80) hx hb (by omega) udX10_readSyllables_72 (by decide) (fun c23 => ?_) (fun c23 => ?_)
          · refine lv_iload_n hx hb udX10_readSyllables_80 rfl (lv_at hl 0 rfl) ?_
            refine lv_bipush (v := zI 111) hx hb udX10_readSyllables_81 (by decide) ?_
            refine z_icmp_eq (tgt := 92) hx hb (by omega) (by omega) udX10_readSyllables_83 (by decide) (fun c24 => ?_) (fun c24 => ?_)
            · refine lv_aload_n hx hb udX10_readSyllables_92 rfl (lv_at hl 3 rfl) ?_
              refine f_9_1 F w (a := 143) rfl utb_45 udX10_readSyllables_93 ?_
              have hq24 := i0.2.2.2.2.1.2.1
              refine r_val (v := (zI ((y1.1 : Nat) : Int))) (i0.2.2.2.1.2.1) ?_
              refine lv_bipush (v := zI 12) hx hb udX10_readSyllables_96 (by decide) ?_
              refine z_icmp_ge (tgt := 122) hx hb (by omega) (by omega) udX10_readSyllables_98 (by decide) (fun c25 => ?_) (fun c25 => ?_)
              · refine lv_iconst (v := zI 0) hx hb udX10_readSyllables_122 rfl ?_
                exact e_z F w hr hlocks (nar_z (by omega)) (Or.inr ⟨i1.symm.trans (rs_n (by omega) (by omega) (by omega)), rfl, i0.o, i2⟩) udX10_readSyllables_123
              · refine lv_aload_n hx hb udX10_readSyllables_101 rfl (lv_at hl 3 rfl) ?_
                refine lv_iload_n hx hb udX10_readSyllables_102 rfl (lv_at hl 0 rfl) ?_
                refine lv_bipush (v := zI 79) hx hb udX10_readSyllables_103 (by decide) ?_
                refine z_icmp_ne (tgt := 112) hx hb (by omega) (by omega) udX10_readSyllables_105 (by decide) (fun c26 => ?_) (fun c26 => ?_)
                · refine lv_iconst (v := zI 0) hx hb udX10_readSyllables_112 rfl ?_
                  refine lv_iload_n hx hb udX10_readSyllables_113 rfl (lv_at hl 1 rfl) ?_
                  refine k_Vv F w (As := [.int (zI 0), .int (zI (e9 : Int))]) (rest := []) (a := 143) (kd_lt (a := 143) (show kd 143 = (9, 0, 0) from rfl) (by decide)) (sh_9 rfl _ _) rfl (s_X9_addSyllable (a := 143) rfl i0.2.2.2.1 i0.2.2.2.wf (x := 0) (y := e9) (by omega) (by omega) (by omega)) ugv_X10_63 uhv_X9_addSyllable ⟨(by omega), (by omega)⟩ hl.1 rfl (Nat.le_of_ble_eq_true rfl) ⟨Nat.zero_le _, Nat.zero_le _⟩ udX10_readSyllables_114 (fun Ma27 H locs hp w => ?_)
                  rcases hp with ⟨hW2, hF2⟩
                  have hD2 : DS Ma27 T tn i (syO y1 0 e9) o := DS.w i0 hF2 (CW.sy i0.2.2.2 hW2 (by omega))
                  have hF3 : FrD Ma27 M := FrD.tr i2 (FrD.w hF2)
                  refine lv_iconst (v := zI 0) hx hb udX10_readSyllables_117 rfl ?_
                  refine lv_istore_n (lv' := [(2, .int (zI 0)), (3, .int (zI (((T i) : Nat) : Int))), (0, .ref (B + 3)), (1, .ref (B + 143))]) hx hb udX10_readSyllables_118 rfl hl (by decide) rfl (fun ls hl => ?_)
                  refine lv_goto (tgt := 124) hx hb udX10_readSyllables_119 (by decide) ?_
                  refine lv_aload_n hx hb udX10_readSyllables_124 rfl (lv_at hl 2 rfl) ?_
                  refine lv_aload_n hx hb udX10_readSyllables_125 rfl (lv_at hl 2 rfl) ?_
                  refine f_10_0 F w (a := 3) rfl utb_25 udX10_readSyllables_126 ?_
                  refine lv_aload_n hx hb udX10_readSyllables_129 rfl (lv_at hl 2 rfl) ?_
                  refine f_10_1 F w (a := 3) rfl utb_26 udX10_readSyllables_130 ?_
                  refine r_val (v := (zI (i : Int))) (hD2.2.1) ?_
                  refine lv_iconst (v := zI 1) hx hb udX10_readSyllables_133 rfl ?_
                  refine z_iadd (z := (((i + 1) : Nat) : Int)) hx hb udX10_readSyllables_134 (by omega) ?_
                  refine x_Vi F w (As := [.int (zI (((i + 1) : Nat) : Int))]) (rest := [.ref (B + 3)]) (a := 1) (kd_lt (a := 1) (show kd 1 = (8, 0, 0) from rfl) (by decide)) (sh_8 rfl _ _) rfl (s_X8_skipBlanks hT hD2.1 (i := (i + 1)) (by omega)) ugv_X10_34 uhv_X8_skipBlanks ⟨(by omega), (by omega)⟩ hl.1 rfl (Nat.le_of_ble_eq_true rfl) ⟨Nat.zero_le _, Nat.zero_le _⟩ udX10_readSyllables_135 (fun H locs w => ?_)
                  have hk27 := sk_le (T := T) (N := tn) (i := (i + 1)) (by omega)
                  refine u_10_1 F w (a := 3) rfl utb_26 udX10_readSyllables_138 (fun H locs w => ?_)
                  refine lv_goto (tgt := 17) hx hb udX10_readSyllables_141 (by decide) ?_
                  have hD29 : DS (st Ma27 3 1 (zI (((sk T tn (i + 1)) : Nat) : Int))) T tn (sk T tn (i + 1)) (syO y1 0 e9) o := DS.at hD2 (by omega)
                  have fD29 : FrD (st Ma27 3 1 (zI (((sk T tn (i + 1)) : Nat) : Int))) M := FrD.tr hF3 FrD.s
                  exact ih (sk T tn (i + 1)) 0 (st Ma27 3 1 (zI (((sk T tn (i + 1)) : Nat) : Int))) (syO y1 0 e9) (fu - 1) hD29 ((rs_y (by omega) (by omega) (by omega) (show hO (T i) = 0 by omega) (by omega)).symm.trans i1) fD29 (by omega) (by omega) (by omega) _ _ ls w (lv_sub hl [0, 2, 3] rfl)
                · refine lv_iconst (v := zI 1) hx hb udX10_readSyllables_108 rfl ?_
                  refine lv_goto (tgt := 113) hx hb udX10_readSyllables_109 (by decide) ?_
                  refine lv_iload_n hx hb udX10_readSyllables_113 rfl (lv_at hl 1 rfl) ?_
                  refine k_Vv F w (As := [.int (zI 1), .int (zI (e9 : Int))]) (rest := []) (a := 143) (kd_lt (a := 143) (show kd 143 = (9, 0, 0) from rfl) (by decide)) (sh_9 rfl _ _) rfl (s_X9_addSyllable (a := 143) rfl i0.2.2.2.1 i0.2.2.2.wf (x := 1) (y := e9) (by omega) (by omega) (by omega)) ugv_X10_63 uhv_X9_addSyllable ⟨(by omega), (by omega)⟩ hl.1 rfl (Nat.le_of_ble_eq_true rfl) ⟨Nat.zero_le _, Nat.zero_le _⟩ udX10_readSyllables_114 (fun Ma30 H locs hp w => ?_)
                  rcases hp with ⟨hW2, hF2⟩
                  have hD2 : DS Ma30 T tn i (syO y1 1 e9) o := DS.w i0 hF2 (CW.sy i0.2.2.2 hW2 (by omega))
                  have hF3 : FrD Ma30 M := FrD.tr i2 (FrD.w hF2)
                  refine lv_iconst (v := zI 0) hx hb udX10_readSyllables_117 rfl ?_
                  refine lv_istore_n (lv' := [(2, .int (zI 0)), (3, .int (zI (((T i) : Nat) : Int))), (0, .ref (B + 3)), (1, .ref (B + 143))]) hx hb udX10_readSyllables_118 rfl hl (by decide) rfl (fun ls hl => ?_)
                  refine lv_goto (tgt := 124) hx hb udX10_readSyllables_119 (by decide) ?_
                  refine lv_aload_n hx hb udX10_readSyllables_124 rfl (lv_at hl 2 rfl) ?_
                  refine lv_aload_n hx hb udX10_readSyllables_125 rfl (lv_at hl 2 rfl) ?_
                  refine f_10_0 F w (a := 3) rfl utb_25 udX10_readSyllables_126 ?_
                  refine lv_aload_n hx hb udX10_readSyllables_129 rfl (lv_at hl 2 rfl) ?_
                  refine f_10_1 F w (a := 3) rfl utb_26 udX10_readSyllables_130 ?_
                  refine r_val (v := (zI (i : Int))) (hD2.2.1) ?_
                  refine lv_iconst (v := zI 1) hx hb udX10_readSyllables_133 rfl ?_
                  refine z_iadd (z := (((i + 1) : Nat) : Int)) hx hb udX10_readSyllables_134 (by omega) ?_
                  refine x_Vi F w (As := [.int (zI (((i + 1) : Nat) : Int))]) (rest := [.ref (B + 3)]) (a := 1) (kd_lt (a := 1) (show kd 1 = (8, 0, 0) from rfl) (by decide)) (sh_8 rfl _ _) rfl (s_X8_skipBlanks hT hD2.1 (i := (i + 1)) (by omega)) ugv_X10_34 uhv_X8_skipBlanks ⟨(by omega), (by omega)⟩ hl.1 rfl (Nat.le_of_ble_eq_true rfl) ⟨Nat.zero_le _, Nat.zero_le _⟩ udX10_readSyllables_135 (fun H locs w => ?_)
                  have hk30 := sk_le (T := T) (N := tn) (i := (i + 1)) (by omega)
                  refine u_10_1 F w (a := 3) rfl utb_26 udX10_readSyllables_138 (fun H locs w => ?_)
                  refine lv_goto (tgt := 17) hx hb udX10_readSyllables_141 (by decide) ?_
                  have hD32 : DS (st Ma30 3 1 (zI (((sk T tn (i + 1)) : Nat) : Int))) T tn (sk T tn (i + 1)) (syO y1 1 e9) o := DS.at hD2 (by omega)
                  have fD32 : FrD (st Ma30 3 1 (zI (((sk T tn (i + 1)) : Nat) : Int))) M := FrD.tr hF3 FrD.s
                  exact ih (sk T tn (i + 1)) 0 (st Ma30 3 1 (zI (((sk T tn (i + 1)) : Nat) : Int))) (syO y1 1 e9) (fu - 1) hD32 ((rs_y (by omega) (by omega) (by omega) (show hO (T i) = 1 by omega) (by omega)).symm.trans i1) fD32 (by omega) (by omega) (by omega) _ _ ls w (lv_sub hl [0, 2, 3] rfl)
            · refine lv_iload_n hx hb udX10_readSyllables_86 rfl (lv_at hl 0 rfl) ?_
              refine lv_bipush (v := zI 79) hx hb udX10_readSyllables_87 (by decide) ?_
              refine z_icmp_ne (tgt := 122) hx hb (by omega) (by omega) udX10_readSyllables_89 (by decide) (fun c33 => ?_) (fun c33 => ?_)
              · refine lv_iconst (v := zI 0) hx hb udX10_readSyllables_122 rfl ?_
                exact e_z F w hr hlocks (nar_z (by omega)) (Or.inr ⟨i1.symm.trans (rs_n (by omega) (by omega) (by omega)), rfl, i0.o, i2⟩) udX10_readSyllables_123
              · refine lv_aload_n hx hb udX10_readSyllables_92 rfl (lv_at hl 3 rfl) ?_
                refine f_9_1 F w (a := 143) rfl utb_45 udX10_readSyllables_93 ?_
                have hq33 := i0.2.2.2.2.1.2.1
                refine r_val (v := (zI ((y1.1 : Nat) : Int))) (i0.2.2.2.1.2.1) ?_
                refine lv_bipush (v := zI 12) hx hb udX10_readSyllables_96 (by decide) ?_
                refine z_icmp_ge (tgt := 122) hx hb (by omega) (by omega) udX10_readSyllables_98 (by decide) (fun c34 => ?_) (fun c34 => ?_)
                · refine lv_iconst (v := zI 0) hx hb udX10_readSyllables_122 rfl ?_
                  exact e_z F w hr hlocks (nar_z (by omega)) (Or.inr ⟨i1.symm.trans (rs_n (by omega) (by omega) (by omega)), rfl, i0.o, i2⟩) udX10_readSyllables_123
                · refine lv_aload_n hx hb udX10_readSyllables_101 rfl (lv_at hl 3 rfl) ?_
                  refine lv_iload_n hx hb udX10_readSyllables_102 rfl (lv_at hl 0 rfl) ?_
                  refine lv_bipush (v := zI 79) hx hb udX10_readSyllables_103 (by decide) ?_
                  refine z_icmp_ne (tgt := 112) hx hb (by omega) (by omega) udX10_readSyllables_105 (by decide) (fun c35 => ?_) (fun c35 => ?_)
                  · refine lv_iconst (v := zI 0) hx hb udX10_readSyllables_112 rfl ?_
                    refine lv_iload_n hx hb udX10_readSyllables_113 rfl (lv_at hl 1 rfl) ?_
                    refine k_Vv F w (As := [.int (zI 0), .int (zI (e9 : Int))]) (rest := []) (a := 143) (kd_lt (a := 143) (show kd 143 = (9, 0, 0) from rfl) (by decide)) (sh_9 rfl _ _) rfl (s_X9_addSyllable (a := 143) rfl i0.2.2.2.1 i0.2.2.2.wf (x := 0) (y := e9) (by omega) (by omega) (by omega)) ugv_X10_63 uhv_X9_addSyllable ⟨(by omega), (by omega)⟩ hl.1 rfl (Nat.le_of_ble_eq_true rfl) ⟨Nat.zero_le _, Nat.zero_le _⟩ udX10_readSyllables_114 (fun Ma36 H locs hp w => ?_)
                    rcases hp with ⟨hW2, hF2⟩
                    have hD2 : DS Ma36 T tn i (syO y1 0 e9) o := DS.w i0 hF2 (CW.sy i0.2.2.2 hW2 (by omega))
                    have hF3 : FrD Ma36 M := FrD.tr i2 (FrD.w hF2)
                    refine lv_iconst (v := zI 0) hx hb udX10_readSyllables_117 rfl ?_
                    refine lv_istore_n (lv' := [(2, .int (zI 0)), (3, .int (zI (((T i) : Nat) : Int))), (0, .ref (B + 3)), (1, .ref (B + 143))]) hx hb udX10_readSyllables_118 rfl hl (by decide) rfl (fun ls hl => ?_)
                    refine lv_goto (tgt := 124) hx hb udX10_readSyllables_119 (by decide) ?_
                    refine lv_aload_n hx hb udX10_readSyllables_124 rfl (lv_at hl 2 rfl) ?_
                    refine lv_aload_n hx hb udX10_readSyllables_125 rfl (lv_at hl 2 rfl) ?_
                    refine f_10_0 F w (a := 3) rfl utb_25 udX10_readSyllables_126 ?_
                    refine lv_aload_n hx hb udX10_readSyllables_129 rfl (lv_at hl 2 rfl) ?_
                    refine f_10_1 F w (a := 3) rfl utb_26 udX10_readSyllables_130 ?_
                    refine r_val (v := (zI (i : Int))) (hD2.2.1) ?_
                    refine lv_iconst (v := zI 1) hx hb udX10_readSyllables_133 rfl ?_
                    refine z_iadd (z := (((i + 1) : Nat) : Int)) hx hb udX10_readSyllables_134 (by omega) ?_
                    refine x_Vi F w (As := [.int (zI (((i + 1) : Nat) : Int))]) (rest := [.ref (B + 3)]) (a := 1) (kd_lt (a := 1) (show kd 1 = (8, 0, 0) from rfl) (by decide)) (sh_8 rfl _ _) rfl (s_X8_skipBlanks hT hD2.1 (i := (i + 1)) (by omega)) ugv_X10_34 uhv_X8_skipBlanks ⟨(by omega), (by omega)⟩ hl.1 rfl (Nat.le_of_ble_eq_true rfl) ⟨Nat.zero_le _, Nat.zero_le _⟩ udX10_readSyllables_135 (fun H locs w => ?_)
                    have hk36 := sk_le (T := T) (N := tn) (i := (i + 1)) (by omega)
                    refine u_10_1 F w (a := 3) rfl utb_26 udX10_readSyllables_138 (fun H locs w => ?_)
                    refine lv_goto (tgt := 17) hx hb udX10_readSyllables_141 (by decide) ?_
                    have hD38 : DS (st Ma36 3 1 (zI (((sk T tn (i + 1)) : Nat) : Int))) T tn (sk T tn (i + 1)) (syO y1 0 e9) o := DS.at hD2 (by omega)
                    have fD38 : FrD (st Ma36 3 1 (zI (((sk T tn (i + 1)) : Nat) : Int))) M := FrD.tr hF3 FrD.s
                    exact ih (sk T tn (i + 1)) 0 (st Ma36 3 1 (zI (((sk T tn (i + 1)) : Nat) : Int))) (syO y1 0 e9) (fu - 1) hD38 ((rs_y (by omega) (by omega) (by omega) (show hO (T i) = 0 by omega) (by omega)).symm.trans i1) fD38 (by omega) (by omega) (by omega) _ _ ls w (lv_sub hl [0, 2, 3] rfl)
                  · refine lv_iconst (v := zI 1) hx hb udX10_readSyllables_108 rfl ?_
                    refine lv_goto (tgt := 113) hx hb udX10_readSyllables_109 (by decide) ?_
                    refine lv_iload_n hx hb udX10_readSyllables_113 rfl (lv_at hl 1 rfl) ?_
                    refine k_Vv F w (As := [.int (zI 1), .int (zI (e9 : Int))]) (rest := []) (a := 143) (kd_lt (a := 143) (show kd 143 = (9, 0, 0) from rfl) (by decide)) (sh_9 rfl _ _) rfl (s_X9_addSyllable (a := 143) rfl i0.2.2.2.1 i0.2.2.2.wf (x := 1) (y := e9) (by omega) (by omega) (by omega)) ugv_X10_63 uhv_X9_addSyllable ⟨(by omega), (by omega)⟩ hl.1 rfl (Nat.le_of_ble_eq_true rfl) ⟨Nat.zero_le _, Nat.zero_le _⟩ udX10_readSyllables_114 (fun Ma39 H locs hp w => ?_)
                    rcases hp with ⟨hW2, hF2⟩
                    have hD2 : DS Ma39 T tn i (syO y1 1 e9) o := DS.w i0 hF2 (CW.sy i0.2.2.2 hW2 (by omega))
                    have hF3 : FrD Ma39 M := FrD.tr i2 (FrD.w hF2)
                    refine lv_iconst (v := zI 0) hx hb udX10_readSyllables_117 rfl ?_
                    refine lv_istore_n (lv' := [(2, .int (zI 0)), (3, .int (zI (((T i) : Nat) : Int))), (0, .ref (B + 3)), (1, .ref (B + 143))]) hx hb udX10_readSyllables_118 rfl hl (by decide) rfl (fun ls hl => ?_)
                    refine lv_goto (tgt := 124) hx hb udX10_readSyllables_119 (by decide) ?_
                    refine lv_aload_n hx hb udX10_readSyllables_124 rfl (lv_at hl 2 rfl) ?_
                    refine lv_aload_n hx hb udX10_readSyllables_125 rfl (lv_at hl 2 rfl) ?_
                    refine f_10_0 F w (a := 3) rfl utb_25 udX10_readSyllables_126 ?_
                    refine lv_aload_n hx hb udX10_readSyllables_129 rfl (lv_at hl 2 rfl) ?_
                    refine f_10_1 F w (a := 3) rfl utb_26 udX10_readSyllables_130 ?_
                    refine r_val (v := (zI (i : Int))) (hD2.2.1) ?_
                    refine lv_iconst (v := zI 1) hx hb udX10_readSyllables_133 rfl ?_
                    refine z_iadd (z := (((i + 1) : Nat) : Int)) hx hb udX10_readSyllables_134 (by omega) ?_
                    refine x_Vi F w (As := [.int (zI (((i + 1) : Nat) : Int))]) (rest := [.ref (B + 3)]) (a := 1) (kd_lt (a := 1) (show kd 1 = (8, 0, 0) from rfl) (by decide)) (sh_8 rfl _ _) rfl (s_X8_skipBlanks hT hD2.1 (i := (i + 1)) (by omega)) ugv_X10_34 uhv_X8_skipBlanks ⟨(by omega), (by omega)⟩ hl.1 rfl (Nat.le_of_ble_eq_true rfl) ⟨Nat.zero_le _, Nat.zero_le _⟩ udX10_readSyllables_135 (fun H locs w => ?_)
                    have hk39 := sk_le (T := T) (N := tn) (i := (i + 1)) (by omega)
                    refine u_10_1 F w (a := 3) rfl utb_26 udX10_readSyllables_138 (fun H locs w => ?_)
                    refine lv_goto (tgt := 17) hx hb udX10_readSyllables_141 (by decide) ?_
                    have hD41 : DS (st Ma39 3 1 (zI (((sk T tn (i + 1)) : Nat) : Int))) T tn (sk T tn (i + 1)) (syO y1 1 e9) o := DS.at hD2 (by omega)
                    have fD41 : FrD (st Ma39 3 1 (zI (((sk T tn (i + 1)) : Nat) : Int))) M := FrD.tr hF3 FrD.s
                    exact ih (sk T tn (i + 1)) 0 (st Ma39 3 1 (zI (((sk T tn (i + 1)) : Nat) : Int))) (syO y1 1 e9) (fu - 1) hD41 ((rs_y (by omega) (by omega) (by omega) (show hO (T i) = 1 by omega) (by omega)).symm.trans i1) fD41 (by omega) (by omega) (by omega) _ _ ls w (lv_sub hl [0, 2, 3] rfl)
          · refine lv_iconst (v := zI 1) hx hb udX10_readSyllables_75 rfl ?_
            refine lv_istore_n (lv' := [(2, .int (zI 1)), (3, .int (zI (((T i) : Nat) : Int))), (0, .ref (B + 3)), (1, .ref (B + 143))]) hx hb udX10_readSyllables_76 rfl hl (by decide) rfl (fun ls hl => ?_)
            refine lv_goto (tgt := 124) hx hb udX10_readSyllables_77 (by decide) ?_
            refine lv_aload_n hx hb udX10_readSyllables_124 rfl (lv_at hl 2 rfl) ?_
            refine lv_aload_n hx hb udX10_readSyllables_125 rfl (lv_at hl 2 rfl) ?_
            refine f_10_0 F w (a := 3) rfl utb_25 udX10_readSyllables_126 ?_
            refine lv_aload_n hx hb udX10_readSyllables_129 rfl (lv_at hl 2 rfl) ?_
            refine f_10_1 F w (a := 3) rfl utb_26 udX10_readSyllables_130 ?_
            refine r_val (v := (zI (i : Int))) (i0.2.1) ?_
            refine lv_iconst (v := zI 1) hx hb udX10_readSyllables_133 rfl ?_
            refine z_iadd (z := (((i + 1) : Nat) : Int)) hx hb udX10_readSyllables_134 (by omega) ?_
            refine x_Vi F w (As := [.int (zI (((i + 1) : Nat) : Int))]) (rest := [.ref (B + 3)]) (a := 1) (kd_lt (a := 1) (show kd 1 = (8, 0, 0) from rfl) (by decide)) (sh_8 rfl _ _) rfl (s_X8_skipBlanks hT i0.1 (i := (i + 1)) (by omega)) ugv_X10_34 uhv_X8_skipBlanks ⟨(by omega), (by omega)⟩ hl.1 rfl (Nat.le_of_ble_eq_true rfl) ⟨Nat.zero_le _, Nat.zero_le _⟩ udX10_readSyllables_135 (fun H locs w => ?_)
            have hk41 := sk_le (T := T) (N := tn) (i := (i + 1)) (by omega)
            refine u_10_1 F w (a := 3) rfl utb_26 udX10_readSyllables_138 (fun H locs w => ?_)
            refine lv_goto (tgt := 17) hx hb udX10_readSyllables_141 (by decide) ?_
            have hD43 : DS (st Nm 3 1 (zI (((sk T tn (i + 1)) : Nat) : Int))) T tn (sk T tn (i + 1)) y1 o := DS.at i0 (by omega)
            have fD43 : FrD (st Nm 3 1 (zI (((sk T tn (i + 1)) : Nat) : Int))) M := FrD.tr i2 FrD.s
            exact ih (sk T tn (i + 1)) 1 (st Nm 3 1 (zI (((sk T tn (i + 1)) : Nat) : Int))) y1 (fu - 1) hD43 ((rs_d (by omega) (by omega) (by omega) (by omega)).symm.trans i1) fD43 (by omega) (by omega) (by omega) _ _ ls w (lv_sub hl [0, 2, 3] rfl)
      · refine lv_iload_n hx hb udX10_readSyllables_49 rfl (lv_at hl 1 rfl) ?_
        refine z_if_ne (tgt := 65) hx hb (by omega) udX10_readSyllables_50 (by decide) (fun c44 => ?_) (fun c44 => ?_)
        · refine lv_iload_n hx hb udX10_readSyllables_65 rfl (lv_at hl 0 rfl) ?_
          refine lv_bipush (v := zI 45) hx hb udX10_readSyllables_66 (by decide) ?_
          refine z_icmp_ne (tgt := 80) hx hb (by omega) (by omega) udX10_readSyllables_68 (by decide) (fun c45 => ?_) (fun c45 => ?_)
          · refine lv_iload_n hx hb udX10_readSyllables_80 rfl (lv_at hl 0 rfl) ?_
            refine lv_bipush (v := zI 111) hx hb udX10_readSyllables_81 (by decide) ?_
            refine z_icmp_eq (tgt := 92) hx hb (by omega) (by omega) udX10_readSyllables_83 (by decide) (fun c46 => ?_) (fun c46 => ?_)
            · refine lv_aload_n hx hb udX10_readSyllables_92 rfl (lv_at hl 3 rfl) ?_
              refine f_9_1 F w (a := 143) rfl utb_45 udX10_readSyllables_93 ?_
              have hq46 := i0.2.2.2.2.1.2.1
              refine r_val (v := (zI ((y1.1 : Nat) : Int))) (i0.2.2.2.1.2.1) ?_
              refine lv_bipush (v := zI 12) hx hb udX10_readSyllables_96 (by decide) ?_
              refine z_icmp_ge (tgt := 122) hx hb (by omega) (by omega) udX10_readSyllables_98 (by decide) (fun c47 => ?_) (fun c47 => ?_)
              · refine lv_iconst (v := zI 0) hx hb udX10_readSyllables_122 rfl ?_
                exact e_z F w hr hlocks (nar_z (by omega)) (Or.inr ⟨i1.symm.trans (rs_n (by omega) (by omega) (by omega)), rfl, i0.o, i2⟩) udX10_readSyllables_123
              · refine lv_aload_n hx hb udX10_readSyllables_101 rfl (lv_at hl 3 rfl) ?_
                refine lv_iload_n hx hb udX10_readSyllables_102 rfl (lv_at hl 0 rfl) ?_
                refine lv_bipush (v := zI 79) hx hb udX10_readSyllables_103 (by decide) ?_
                refine z_icmp_ne (tgt := 112) hx hb (by omega) (by omega) udX10_readSyllables_105 (by decide) (fun c48 => ?_) (fun c48 => ?_)
                · refine lv_iconst (v := zI 0) hx hb udX10_readSyllables_112 rfl ?_
                  refine lv_iload_n hx hb udX10_readSyllables_113 rfl (lv_at hl 1 rfl) ?_
                  refine k_Vv F w (As := [.int (zI 0), .int (zI (e9 : Int))]) (rest := []) (a := 143) (kd_lt (a := 143) (show kd 143 = (9, 0, 0) from rfl) (by decide)) (sh_9 rfl _ _) rfl (s_X9_addSyllable (a := 143) rfl i0.2.2.2.1 i0.2.2.2.wf (x := 0) (y := e9) (by omega) (by omega) (by omega)) ugv_X10_63 uhv_X9_addSyllable ⟨(by omega), (by omega)⟩ hl.1 rfl (Nat.le_of_ble_eq_true rfl) ⟨Nat.zero_le _, Nat.zero_le _⟩ udX10_readSyllables_114 (fun Ma49 H locs hp w => ?_)
                  rcases hp with ⟨hW2, hF2⟩
                  have hD2 : DS Ma49 T tn i (syO y1 0 e9) o := DS.w i0 hF2 (CW.sy i0.2.2.2 hW2 (by omega))
                  have hF3 : FrD Ma49 M := FrD.tr i2 (FrD.w hF2)
                  refine lv_iconst (v := zI 0) hx hb udX10_readSyllables_117 rfl ?_
                  refine lv_istore_n (lv' := [(2, .int (zI 0)), (3, .int (zI (((T i) : Nat) : Int))), (0, .ref (B + 3)), (1, .ref (B + 143))]) hx hb udX10_readSyllables_118 rfl hl (by decide) rfl (fun ls hl => ?_)
                  refine lv_goto (tgt := 124) hx hb udX10_readSyllables_119 (by decide) ?_
                  refine lv_aload_n hx hb udX10_readSyllables_124 rfl (lv_at hl 2 rfl) ?_
                  refine lv_aload_n hx hb udX10_readSyllables_125 rfl (lv_at hl 2 rfl) ?_
                  refine f_10_0 F w (a := 3) rfl utb_25 udX10_readSyllables_126 ?_
                  refine lv_aload_n hx hb udX10_readSyllables_129 rfl (lv_at hl 2 rfl) ?_
                  refine f_10_1 F w (a := 3) rfl utb_26 udX10_readSyllables_130 ?_
                  refine r_val (v := (zI (i : Int))) (hD2.2.1) ?_
                  refine lv_iconst (v := zI 1) hx hb udX10_readSyllables_133 rfl ?_
                  refine z_iadd (z := (((i + 1) : Nat) : Int)) hx hb udX10_readSyllables_134 (by omega) ?_
                  refine x_Vi F w (As := [.int (zI (((i + 1) : Nat) : Int))]) (rest := [.ref (B + 3)]) (a := 1) (kd_lt (a := 1) (show kd 1 = (8, 0, 0) from rfl) (by decide)) (sh_8 rfl _ _) rfl (s_X8_skipBlanks hT hD2.1 (i := (i + 1)) (by omega)) ugv_X10_34 uhv_X8_skipBlanks ⟨(by omega), (by omega)⟩ hl.1 rfl (Nat.le_of_ble_eq_true rfl) ⟨Nat.zero_le _, Nat.zero_le _⟩ udX10_readSyllables_135 (fun H locs w => ?_)
                  have hk49 := sk_le (T := T) (N := tn) (i := (i + 1)) (by omega)
                  refine u_10_1 F w (a := 3) rfl utb_26 udX10_readSyllables_138 (fun H locs w => ?_)
                  refine lv_goto (tgt := 17) hx hb udX10_readSyllables_141 (by decide) ?_
                  have hD51 : DS (st Ma49 3 1 (zI (((sk T tn (i + 1)) : Nat) : Int))) T tn (sk T tn (i + 1)) (syO y1 0 e9) o := DS.at hD2 (by omega)
                  have fD51 : FrD (st Ma49 3 1 (zI (((sk T tn (i + 1)) : Nat) : Int))) M := FrD.tr hF3 FrD.s
                  exact ih (sk T tn (i + 1)) 0 (st Ma49 3 1 (zI (((sk T tn (i + 1)) : Nat) : Int))) (syO y1 0 e9) (fu - 1) hD51 ((rs_y (by omega) (by omega) (by omega) (show hO (T i) = 0 by omega) (by omega)).symm.trans i1) fD51 (by omega) (by omega) (by omega) _ _ ls w (lv_sub hl [0, 2, 3] rfl)
                · refine lv_iconst (v := zI 1) hx hb udX10_readSyllables_108 rfl ?_
                  refine lv_goto (tgt := 113) hx hb udX10_readSyllables_109 (by decide) ?_
                  refine lv_iload_n hx hb udX10_readSyllables_113 rfl (lv_at hl 1 rfl) ?_
                  refine k_Vv F w (As := [.int (zI 1), .int (zI (e9 : Int))]) (rest := []) (a := 143) (kd_lt (a := 143) (show kd 143 = (9, 0, 0) from rfl) (by decide)) (sh_9 rfl _ _) rfl (s_X9_addSyllable (a := 143) rfl i0.2.2.2.1 i0.2.2.2.wf (x := 1) (y := e9) (by omega) (by omega) (by omega)) ugv_X10_63 uhv_X9_addSyllable ⟨(by omega), (by omega)⟩ hl.1 rfl (Nat.le_of_ble_eq_true rfl) ⟨Nat.zero_le _, Nat.zero_le _⟩ udX10_readSyllables_114 (fun Ma52 H locs hp w => ?_)
                  rcases hp with ⟨hW2, hF2⟩
                  have hD2 : DS Ma52 T tn i (syO y1 1 e9) o := DS.w i0 hF2 (CW.sy i0.2.2.2 hW2 (by omega))
                  have hF3 : FrD Ma52 M := FrD.tr i2 (FrD.w hF2)
                  refine lv_iconst (v := zI 0) hx hb udX10_readSyllables_117 rfl ?_
                  refine lv_istore_n (lv' := [(2, .int (zI 0)), (3, .int (zI (((T i) : Nat) : Int))), (0, .ref (B + 3)), (1, .ref (B + 143))]) hx hb udX10_readSyllables_118 rfl hl (by decide) rfl (fun ls hl => ?_)
                  refine lv_goto (tgt := 124) hx hb udX10_readSyllables_119 (by decide) ?_
                  refine lv_aload_n hx hb udX10_readSyllables_124 rfl (lv_at hl 2 rfl) ?_
                  refine lv_aload_n hx hb udX10_readSyllables_125 rfl (lv_at hl 2 rfl) ?_
                  refine f_10_0 F w (a := 3) rfl utb_25 udX10_readSyllables_126 ?_
                  refine lv_aload_n hx hb udX10_readSyllables_129 rfl (lv_at hl 2 rfl) ?_
                  refine f_10_1 F w (a := 3) rfl utb_26 udX10_readSyllables_130 ?_
                  refine r_val (v := (zI (i : Int))) (hD2.2.1) ?_
                  refine lv_iconst (v := zI 1) hx hb udX10_readSyllables_133 rfl ?_
                  refine z_iadd (z := (((i + 1) : Nat) : Int)) hx hb udX10_readSyllables_134 (by omega) ?_
                  refine x_Vi F w (As := [.int (zI (((i + 1) : Nat) : Int))]) (rest := [.ref (B + 3)]) (a := 1) (kd_lt (a := 1) (show kd 1 = (8, 0, 0) from rfl) (by decide)) (sh_8 rfl _ _) rfl (s_X8_skipBlanks hT hD2.1 (i := (i + 1)) (by omega)) ugv_X10_34 uhv_X8_skipBlanks ⟨(by omega), (by omega)⟩ hl.1 rfl (Nat.le_of_ble_eq_true rfl) ⟨Nat.zero_le _, Nat.zero_le _⟩ udX10_readSyllables_135 (fun H locs w => ?_)
                  have hk52 := sk_le (T := T) (N := tn) (i := (i + 1)) (by omega)
                  refine u_10_1 F w (a := 3) rfl utb_26 udX10_readSyllables_138 (fun H locs w => ?_)
                  refine lv_goto (tgt := 17) hx hb udX10_readSyllables_141 (by decide) ?_
                  have hD54 : DS (st Ma52 3 1 (zI (((sk T tn (i + 1)) : Nat) : Int))) T tn (sk T tn (i + 1)) (syO y1 1 e9) o := DS.at hD2 (by omega)
                  have fD54 : FrD (st Ma52 3 1 (zI (((sk T tn (i + 1)) : Nat) : Int))) M := FrD.tr hF3 FrD.s
                  exact ih (sk T tn (i + 1)) 0 (st Ma52 3 1 (zI (((sk T tn (i + 1)) : Nat) : Int))) (syO y1 1 e9) (fu - 1) hD54 ((rs_y (by omega) (by omega) (by omega) (show hO (T i) = 1 by omega) (by omega)).symm.trans i1) fD54 (by omega) (by omega) (by omega) _ _ ls w (lv_sub hl [0, 2, 3] rfl)
            · refine lv_iload_n hx hb udX10_readSyllables_86 rfl (lv_at hl 0 rfl) ?_
              refine lv_bipush (v := zI 79) hx hb udX10_readSyllables_87 (by decide) ?_
              refine z_icmp_ne (tgt := 122) hx hb (by omega) (by omega) udX10_readSyllables_89 (by decide) (fun c55 => ?_) (fun c55 => ?_)
              · refine lv_iconst (v := zI 0) hx hb udX10_readSyllables_122 rfl ?_
                exact e_z F w hr hlocks (nar_z (by omega)) (Or.inr ⟨i1.symm.trans (rs_n (by omega) (by omega) (by omega)), rfl, i0.o, i2⟩) udX10_readSyllables_123
              · refine lv_aload_n hx hb udX10_readSyllables_92 rfl (lv_at hl 3 rfl) ?_
                refine f_9_1 F w (a := 143) rfl utb_45 udX10_readSyllables_93 ?_
                have hq55 := i0.2.2.2.2.1.2.1
                refine r_val (v := (zI ((y1.1 : Nat) : Int))) (i0.2.2.2.1.2.1) ?_
                refine lv_bipush (v := zI 12) hx hb udX10_readSyllables_96 (by decide) ?_
                refine z_icmp_ge (tgt := 122) hx hb (by omega) (by omega) udX10_readSyllables_98 (by decide) (fun c56 => ?_) (fun c56 => ?_)
                · refine lv_iconst (v := zI 0) hx hb udX10_readSyllables_122 rfl ?_
                  exact e_z F w hr hlocks (nar_z (by omega)) (Or.inr ⟨i1.symm.trans (rs_n (by omega) (by omega) (by omega)), rfl, i0.o, i2⟩) udX10_readSyllables_123
                · refine lv_aload_n hx hb udX10_readSyllables_101 rfl (lv_at hl 3 rfl) ?_
                  refine lv_iload_n hx hb udX10_readSyllables_102 rfl (lv_at hl 0 rfl) ?_
                  refine lv_bipush (v := zI 79) hx hb udX10_readSyllables_103 (by decide) ?_
                  refine z_icmp_ne (tgt := 112) hx hb (by omega) (by omega) udX10_readSyllables_105 (by decide) (fun c57 => ?_) (fun c57 => ?_)
                  · refine lv_iconst (v := zI 0) hx hb udX10_readSyllables_112 rfl ?_
                    refine lv_iload_n hx hb udX10_readSyllables_113 rfl (lv_at hl 1 rfl) ?_
                    refine k_Vv F w (As := [.int (zI 0), .int (zI (e9 : Int))]) (rest := []) (a := 143) (kd_lt (a := 143) (show kd 143 = (9, 0, 0) from rfl) (by decide)) (sh_9 rfl _ _) rfl (s_X9_addSyllable (a := 143) rfl i0.2.2.2.1 i0.2.2.2.wf (x := 0) (y := e9) (by omega) (by omega) (by omega)) ugv_X10_63 uhv_X9_addSyllable ⟨(by omega), (by omega)⟩ hl.1 rfl (Nat.le_of_ble_eq_true rfl) ⟨Nat.zero_le _, Nat.zero_le _⟩ udX10_readSyllables_114 (fun Ma58 H locs hp w => ?_)
                    rcases hp with ⟨hW2, hF2⟩
                    have hD2 : DS Ma58 T tn i (syO y1 0 e9) o := DS.w i0 hF2 (CW.sy i0.2.2.2 hW2 (by omega))
                    have hF3 : FrD Ma58 M := FrD.tr i2 (FrD.w hF2)
                    refine lv_iconst (v := zI 0) hx hb udX10_readSyllables_117 rfl ?_
                    refine lv_istore_n (lv' := [(2, .int (zI 0)), (3, .int (zI (((T i) : Nat) : Int))), (0, .ref (B + 3)), (1, .ref (B + 143))]) hx hb udX10_readSyllables_118 rfl hl (by decide) rfl (fun ls hl => ?_)
                    refine lv_goto (tgt := 124) hx hb udX10_readSyllables_119 (by decide) ?_
                    refine lv_aload_n hx hb udX10_readSyllables_124 rfl (lv_at hl 2 rfl) ?_
                    refine lv_aload_n hx hb udX10_readSyllables_125 rfl (lv_at hl 2 rfl) ?_
                    refine f_10_0 F w (a := 3) rfl utb_25 udX10_readSyllables_126 ?_
                    refine lv_aload_n hx hb udX10_readSyllables_129 rfl (lv_at hl 2 rfl) ?_
                    refine f_10_1 F w (a := 3) rfl utb_26 udX10_readSyllables_130 ?_
                    refine r_val (v := (zI (i : Int))) (hD2.2.1) ?_
                    refine lv_iconst (v := zI 1) hx hb udX10_readSyllables_133 rfl ?_
                    refine z_iadd (z := (((i + 1) : Nat) : Int)) hx hb udX10_readSyllables_134 (by omega) ?_
                    refine x_Vi F w (As := [.int (zI (((i + 1) : Nat) : Int))]) (rest := [.ref (B + 3)]) (a := 1) (kd_lt (a := 1) (show kd 1 = (8, 0, 0) from rfl) (by decide)) (sh_8 rfl _ _) rfl (s_X8_skipBlanks hT hD2.1 (i := (i + 1)) (by omega)) ugv_X10_34 uhv_X8_skipBlanks ⟨(by omega), (by omega)⟩ hl.1 rfl (Nat.le_of_ble_eq_true rfl) ⟨Nat.zero_le _, Nat.zero_le _⟩ udX10_readSyllables_135 (fun H locs w => ?_)
                    have hk58 := sk_le (T := T) (N := tn) (i := (i + 1)) (by omega)
                    refine u_10_1 F w (a := 3) rfl utb_26 udX10_readSyllables_138 (fun H locs w => ?_)
                    refine lv_goto (tgt := 17) hx hb udX10_readSyllables_141 (by decide) ?_
                    have hD60 : DS (st Ma58 3 1 (zI (((sk T tn (i + 1)) : Nat) : Int))) T tn (sk T tn (i + 1)) (syO y1 0 e9) o := DS.at hD2 (by omega)
                    have fD60 : FrD (st Ma58 3 1 (zI (((sk T tn (i + 1)) : Nat) : Int))) M := FrD.tr hF3 FrD.s
                    exact ih (sk T tn (i + 1)) 0 (st Ma58 3 1 (zI (((sk T tn (i + 1)) : Nat) : Int))) (syO y1 0 e9) (fu - 1) hD60 ((rs_y (by omega) (by omega) (by omega) (show hO (T i) = 0 by omega) (by omega)).symm.trans i1) fD60 (by omega) (by omega) (by omega) _ _ ls w (lv_sub hl [0, 2, 3] rfl)
                  · refine lv_iconst (v := zI 1) hx hb udX10_readSyllables_108 rfl ?_
                    refine lv_goto (tgt := 113) hx hb udX10_readSyllables_109 (by decide) ?_
                    refine lv_iload_n hx hb udX10_readSyllables_113 rfl (lv_at hl 1 rfl) ?_
                    refine k_Vv F w (As := [.int (zI 1), .int (zI (e9 : Int))]) (rest := []) (a := 143) (kd_lt (a := 143) (show kd 143 = (9, 0, 0) from rfl) (by decide)) (sh_9 rfl _ _) rfl (s_X9_addSyllable (a := 143) rfl i0.2.2.2.1 i0.2.2.2.wf (x := 1) (y := e9) (by omega) (by omega) (by omega)) ugv_X10_63 uhv_X9_addSyllable ⟨(by omega), (by omega)⟩ hl.1 rfl (Nat.le_of_ble_eq_true rfl) ⟨Nat.zero_le _, Nat.zero_le _⟩ udX10_readSyllables_114 (fun Ma61 H locs hp w => ?_)
                    rcases hp with ⟨hW2, hF2⟩
                    have hD2 : DS Ma61 T tn i (syO y1 1 e9) o := DS.w i0 hF2 (CW.sy i0.2.2.2 hW2 (by omega))
                    have hF3 : FrD Ma61 M := FrD.tr i2 (FrD.w hF2)
                    refine lv_iconst (v := zI 0) hx hb udX10_readSyllables_117 rfl ?_
                    refine lv_istore_n (lv' := [(2, .int (zI 0)), (3, .int (zI (((T i) : Nat) : Int))), (0, .ref (B + 3)), (1, .ref (B + 143))]) hx hb udX10_readSyllables_118 rfl hl (by decide) rfl (fun ls hl => ?_)
                    refine lv_goto (tgt := 124) hx hb udX10_readSyllables_119 (by decide) ?_
                    refine lv_aload_n hx hb udX10_readSyllables_124 rfl (lv_at hl 2 rfl) ?_
                    refine lv_aload_n hx hb udX10_readSyllables_125 rfl (lv_at hl 2 rfl) ?_
                    refine f_10_0 F w (a := 3) rfl utb_25 udX10_readSyllables_126 ?_
                    refine lv_aload_n hx hb udX10_readSyllables_129 rfl (lv_at hl 2 rfl) ?_
                    refine f_10_1 F w (a := 3) rfl utb_26 udX10_readSyllables_130 ?_
                    refine r_val (v := (zI (i : Int))) (hD2.2.1) ?_
                    refine lv_iconst (v := zI 1) hx hb udX10_readSyllables_133 rfl ?_
                    refine z_iadd (z := (((i + 1) : Nat) : Int)) hx hb udX10_readSyllables_134 (by omega) ?_
                    refine x_Vi F w (As := [.int (zI (((i + 1) : Nat) : Int))]) (rest := [.ref (B + 3)]) (a := 1) (kd_lt (a := 1) (show kd 1 = (8, 0, 0) from rfl) (by decide)) (sh_8 rfl _ _) rfl (s_X8_skipBlanks hT hD2.1 (i := (i + 1)) (by omega)) ugv_X10_34 uhv_X8_skipBlanks ⟨(by omega), (by omega)⟩ hl.1 rfl (Nat.le_of_ble_eq_true rfl) ⟨Nat.zero_le _, Nat.zero_le _⟩ udX10_readSyllables_135 (fun H locs w => ?_)
                    have hk61 := sk_le (T := T) (N := tn) (i := (i + 1)) (by omega)
                    refine u_10_1 F w (a := 3) rfl utb_26 udX10_readSyllables_138 (fun H locs w => ?_)
                    refine lv_goto (tgt := 17) hx hb udX10_readSyllables_141 (by decide) ?_
                    have hD63 : DS (st Ma61 3 1 (zI (((sk T tn (i + 1)) : Nat) : Int))) T tn (sk T tn (i + 1)) (syO y1 1 e9) o := DS.at hD2 (by omega)
                    have fD63 : FrD (st Ma61 3 1 (zI (((sk T tn (i + 1)) : Nat) : Int))) M := FrD.tr hF3 FrD.s
                    exact ih (sk T tn (i + 1)) 0 (st Ma61 3 1 (zI (((sk T tn (i + 1)) : Nat) : Int))) (syO y1 1 e9) (fu - 1) hD63 ((rs_y (by omega) (by omega) (by omega) (show hO (T i) = 1 by omega) (by omega)).symm.trans i1) fD63 (by omega) (by omega) (by omega) _ _ ls w (lv_sub hl [0, 2, 3] rfl)
          · refine lv_iload_n hx hb udX10_readSyllables_71 rfl (lv_at hl 1 rfl) ?_
            refine z_if_ne (tgt := 80) hx hb (by omega) udX10_readSyllables_72 (by decide) (fun c64 => ?_) (fun c64 => ?_)
            · refine lv_iload_n hx hb udX10_readSyllables_80 rfl (lv_at hl 0 rfl) ?_
              refine lv_bipush (v := zI 111) hx hb udX10_readSyllables_81 (by decide) ?_
              refine z_icmp_eq (tgt := 92) hx hb (by omega) (by omega) udX10_readSyllables_83 (by decide) (fun c65 => ?_) (fun c65 => ?_)
              · refine lv_aload_n hx hb udX10_readSyllables_92 rfl (lv_at hl 3 rfl) ?_
                refine f_9_1 F w (a := 143) rfl utb_45 udX10_readSyllables_93 ?_
                have hq65 := i0.2.2.2.2.1.2.1
                refine r_val (v := (zI ((y1.1 : Nat) : Int))) (i0.2.2.2.1.2.1) ?_
                refine lv_bipush (v := zI 12) hx hb udX10_readSyllables_96 (by decide) ?_
                refine z_icmp_ge (tgt := 122) hx hb (by omega) (by omega) udX10_readSyllables_98 (by decide) (fun c66 => ?_) (fun c66 => ?_)
                · refine lv_iconst (v := zI 0) hx hb udX10_readSyllables_122 rfl ?_
                  exact e_z F w hr hlocks (nar_z (by omega)) (Or.inr ⟨i1.symm.trans (rs_n (by omega) (by omega) (by omega)), rfl, i0.o, i2⟩) udX10_readSyllables_123
                · refine lv_aload_n hx hb udX10_readSyllables_101 rfl (lv_at hl 3 rfl) ?_
                  refine lv_iload_n hx hb udX10_readSyllables_102 rfl (lv_at hl 0 rfl) ?_
                  refine lv_bipush (v := zI 79) hx hb udX10_readSyllables_103 (by decide) ?_
                  refine z_icmp_ne (tgt := 112) hx hb (by omega) (by omega) udX10_readSyllables_105 (by decide) (fun c67 => ?_) (fun c67 => ?_)
                  · refine lv_iconst (v := zI 0) hx hb udX10_readSyllables_112 rfl ?_
                    refine lv_iload_n hx hb udX10_readSyllables_113 rfl (lv_at hl 1 rfl) ?_
                    refine k_Vv F w (As := [.int (zI 0), .int (zI (e9 : Int))]) (rest := []) (a := 143) (kd_lt (a := 143) (show kd 143 = (9, 0, 0) from rfl) (by decide)) (sh_9 rfl _ _) rfl (s_X9_addSyllable (a := 143) rfl i0.2.2.2.1 i0.2.2.2.wf (x := 0) (y := e9) (by omega) (by omega) (by omega)) ugv_X10_63 uhv_X9_addSyllable ⟨(by omega), (by omega)⟩ hl.1 rfl (Nat.le_of_ble_eq_true rfl) ⟨Nat.zero_le _, Nat.zero_le _⟩ udX10_readSyllables_114 (fun Ma68 H locs hp w => ?_)
                    rcases hp with ⟨hW2, hF2⟩
                    have hD2 : DS Ma68 T tn i (syO y1 0 e9) o := DS.w i0 hF2 (CW.sy i0.2.2.2 hW2 (by omega))
                    have hF3 : FrD Ma68 M := FrD.tr i2 (FrD.w hF2)
                    refine lv_iconst (v := zI 0) hx hb udX10_readSyllables_117 rfl ?_
                    refine lv_istore_n (lv' := [(2, .int (zI 0)), (3, .int (zI (((T i) : Nat) : Int))), (0, .ref (B + 3)), (1, .ref (B + 143))]) hx hb udX10_readSyllables_118 rfl hl (by decide) rfl (fun ls hl => ?_)
                    refine lv_goto (tgt := 124) hx hb udX10_readSyllables_119 (by decide) ?_
                    refine lv_aload_n hx hb udX10_readSyllables_124 rfl (lv_at hl 2 rfl) ?_
                    refine lv_aload_n hx hb udX10_readSyllables_125 rfl (lv_at hl 2 rfl) ?_
                    refine f_10_0 F w (a := 3) rfl utb_25 udX10_readSyllables_126 ?_
                    refine lv_aload_n hx hb udX10_readSyllables_129 rfl (lv_at hl 2 rfl) ?_
                    refine f_10_1 F w (a := 3) rfl utb_26 udX10_readSyllables_130 ?_
                    refine r_val (v := (zI (i : Int))) (hD2.2.1) ?_
                    refine lv_iconst (v := zI 1) hx hb udX10_readSyllables_133 rfl ?_
                    refine z_iadd (z := (((i + 1) : Nat) : Int)) hx hb udX10_readSyllables_134 (by omega) ?_
                    refine x_Vi F w (As := [.int (zI (((i + 1) : Nat) : Int))]) (rest := [.ref (B + 3)]) (a := 1) (kd_lt (a := 1) (show kd 1 = (8, 0, 0) from rfl) (by decide)) (sh_8 rfl _ _) rfl (s_X8_skipBlanks hT hD2.1 (i := (i + 1)) (by omega)) ugv_X10_34 uhv_X8_skipBlanks ⟨(by omega), (by omega)⟩ hl.1 rfl (Nat.le_of_ble_eq_true rfl) ⟨Nat.zero_le _, Nat.zero_le _⟩ udX10_readSyllables_135 (fun H locs w => ?_)
                    have hk68 := sk_le (T := T) (N := tn) (i := (i + 1)) (by omega)
                    refine u_10_1 F w (a := 3) rfl utb_26 udX10_readSyllables_138 (fun H locs w => ?_)
                    refine lv_goto (tgt := 17) hx hb udX10_readSyllables_141 (by decide) ?_
                    have hD70 : DS (st Ma68 3 1 (zI (((sk T tn (i + 1)) : Nat) : Int))) T tn (sk T tn (i + 1)) (syO y1 0 e9) o := DS.at hD2 (by omega)
                    have fD70 : FrD (st Ma68 3 1 (zI (((sk T tn (i + 1)) : Nat) : Int))) M := FrD.tr hF3 FrD.s
                    exact ih (sk T tn (i + 1)) 0 (st Ma68 3 1 (zI (((sk T tn (i + 1)) : Nat) : Int))) (syO y1 0 e9) (fu - 1) hD70 ((rs_y (by omega) (by omega) (by omega) (show hO (T i) = 0 by omega) (by omega)).symm.trans i1) fD70 (by omega) (by omega) (by omega) _ _ ls w (lv_sub hl [0, 2, 3] rfl)
                  · refine lv_iconst (v := zI 1) hx hb udX10_readSyllables_108 rfl ?_
                    refine lv_goto (tgt := 113) hx hb udX10_readSyllables_109 (by decide) ?_
                    refine lv_iload_n hx hb udX10_readSyllables_113 rfl (lv_at hl 1 rfl) ?_
                    refine k_Vv F w (As := [.int (zI 1), .int (zI (e9 : Int))]) (rest := []) (a := 143) (kd_lt (a := 143) (show kd 143 = (9, 0, 0) from rfl) (by decide)) (sh_9 rfl _ _) rfl (s_X9_addSyllable (a := 143) rfl i0.2.2.2.1 i0.2.2.2.wf (x := 1) (y := e9) (by omega) (by omega) (by omega)) ugv_X10_63 uhv_X9_addSyllable ⟨(by omega), (by omega)⟩ hl.1 rfl (Nat.le_of_ble_eq_true rfl) ⟨Nat.zero_le _, Nat.zero_le _⟩ udX10_readSyllables_114 (fun Ma71 H locs hp w => ?_)
                    rcases hp with ⟨hW2, hF2⟩
                    have hD2 : DS Ma71 T tn i (syO y1 1 e9) o := DS.w i0 hF2 (CW.sy i0.2.2.2 hW2 (by omega))
                    have hF3 : FrD Ma71 M := FrD.tr i2 (FrD.w hF2)
                    refine lv_iconst (v := zI 0) hx hb udX10_readSyllables_117 rfl ?_
                    refine lv_istore_n (lv' := [(2, .int (zI 0)), (3, .int (zI (((T i) : Nat) : Int))), (0, .ref (B + 3)), (1, .ref (B + 143))]) hx hb udX10_readSyllables_118 rfl hl (by decide) rfl (fun ls hl => ?_)
                    refine lv_goto (tgt := 124) hx hb udX10_readSyllables_119 (by decide) ?_
                    refine lv_aload_n hx hb udX10_readSyllables_124 rfl (lv_at hl 2 rfl) ?_
                    refine lv_aload_n hx hb udX10_readSyllables_125 rfl (lv_at hl 2 rfl) ?_
                    refine f_10_0 F w (a := 3) rfl utb_25 udX10_readSyllables_126 ?_
                    refine lv_aload_n hx hb udX10_readSyllables_129 rfl (lv_at hl 2 rfl) ?_
                    refine f_10_1 F w (a := 3) rfl utb_26 udX10_readSyllables_130 ?_
                    refine r_val (v := (zI (i : Int))) (hD2.2.1) ?_
                    refine lv_iconst (v := zI 1) hx hb udX10_readSyllables_133 rfl ?_
                    refine z_iadd (z := (((i + 1) : Nat) : Int)) hx hb udX10_readSyllables_134 (by omega) ?_
                    refine x_Vi F w (As := [.int (zI (((i + 1) : Nat) : Int))]) (rest := [.ref (B + 3)]) (a := 1) (kd_lt (a := 1) (show kd 1 = (8, 0, 0) from rfl) (by decide)) (sh_8 rfl _ _) rfl (s_X8_skipBlanks hT hD2.1 (i := (i + 1)) (by omega)) ugv_X10_34 uhv_X8_skipBlanks ⟨(by omega), (by omega)⟩ hl.1 rfl (Nat.le_of_ble_eq_true rfl) ⟨Nat.zero_le _, Nat.zero_le _⟩ udX10_readSyllables_135 (fun H locs w => ?_)
                    have hk71 := sk_le (T := T) (N := tn) (i := (i + 1)) (by omega)
                    refine u_10_1 F w (a := 3) rfl utb_26 udX10_readSyllables_138 (fun H locs w => ?_)
                    refine lv_goto (tgt := 17) hx hb udX10_readSyllables_141 (by decide) ?_
                    have hD73 : DS (st Ma71 3 1 (zI (((sk T tn (i + 1)) : Nat) : Int))) T tn (sk T tn (i + 1)) (syO y1 1 e9) o := DS.at hD2 (by omega)
                    have fD73 : FrD (st Ma71 3 1 (zI (((sk T tn (i + 1)) : Nat) : Int))) M := FrD.tr hF3 FrD.s
                    exact ih (sk T tn (i + 1)) 0 (st Ma71 3 1 (zI (((sk T tn (i + 1)) : Nat) : Int))) (syO y1 1 e9) (fu - 1) hD73 ((rs_y (by omega) (by omega) (by omega) (show hO (T i) = 1 by omega) (by omega)).symm.trans i1) fD73 (by omega) (by omega) (by omega) _ _ ls w (lv_sub hl [0, 2, 3] rfl)
              · refine lv_iload_n hx hb udX10_readSyllables_86 rfl (lv_at hl 0 rfl) ?_
                refine lv_bipush (v := zI 79) hx hb udX10_readSyllables_87 (by decide) ?_
                refine z_icmp_ne (tgt := 122) hx hb (by omega) (by omega) udX10_readSyllables_89 (by decide) (fun c74 => ?_) (fun c74 => ?_)
                · refine lv_iconst (v := zI 0) hx hb udX10_readSyllables_122 rfl ?_
                  exact e_z F w hr hlocks (nar_z (by omega)) (Or.inr ⟨i1.symm.trans (rs_n (by omega) (by omega) (by omega)), rfl, i0.o, i2⟩) udX10_readSyllables_123
                · refine lv_aload_n hx hb udX10_readSyllables_92 rfl (lv_at hl 3 rfl) ?_
                  refine f_9_1 F w (a := 143) rfl utb_45 udX10_readSyllables_93 ?_
                  have hq74 := i0.2.2.2.2.1.2.1
                  refine r_val (v := (zI ((y1.1 : Nat) : Int))) (i0.2.2.2.1.2.1) ?_
                  refine lv_bipush (v := zI 12) hx hb udX10_readSyllables_96 (by decide) ?_
                  refine z_icmp_ge (tgt := 122) hx hb (by omega) (by omega) udX10_readSyllables_98 (by decide) (fun c75 => ?_) (fun c75 => ?_)
                  · refine lv_iconst (v := zI 0) hx hb udX10_readSyllables_122 rfl ?_
                    exact e_z F w hr hlocks (nar_z (by omega)) (Or.inr ⟨i1.symm.trans (rs_n (by omega) (by omega) (by omega)), rfl, i0.o, i2⟩) udX10_readSyllables_123
                  · refine lv_aload_n hx hb udX10_readSyllables_101 rfl (lv_at hl 3 rfl) ?_
                    refine lv_iload_n hx hb udX10_readSyllables_102 rfl (lv_at hl 0 rfl) ?_
                    refine lv_bipush (v := zI 79) hx hb udX10_readSyllables_103 (by decide) ?_
                    refine z_icmp_ne (tgt := 112) hx hb (by omega) (by omega) udX10_readSyllables_105 (by decide) (fun c76 => ?_) (fun c76 => ?_)
                    · refine lv_iconst (v := zI 0) hx hb udX10_readSyllables_112 rfl ?_
                      refine lv_iload_n hx hb udX10_readSyllables_113 rfl (lv_at hl 1 rfl) ?_
                      refine k_Vv F w (As := [.int (zI 0), .int (zI (e9 : Int))]) (rest := []) (a := 143) (kd_lt (a := 143) (show kd 143 = (9, 0, 0) from rfl) (by decide)) (sh_9 rfl _ _) rfl (s_X9_addSyllable (a := 143) rfl i0.2.2.2.1 i0.2.2.2.wf (x := 0) (y := e9) (by omega) (by omega) (by omega)) ugv_X10_63 uhv_X9_addSyllable ⟨(by omega), (by omega)⟩ hl.1 rfl (Nat.le_of_ble_eq_true rfl) ⟨Nat.zero_le _, Nat.zero_le _⟩ udX10_readSyllables_114 (fun Ma77 H locs hp w => ?_)
                      rcases hp with ⟨hW2, hF2⟩
                      have hD2 : DS Ma77 T tn i (syO y1 0 e9) o := DS.w i0 hF2 (CW.sy i0.2.2.2 hW2 (by omega))
                      have hF3 : FrD Ma77 M := FrD.tr i2 (FrD.w hF2)
                      refine lv_iconst (v := zI 0) hx hb udX10_readSyllables_117 rfl ?_
                      refine lv_istore_n (lv' := [(2, .int (zI 0)), (3, .int (zI (((T i) : Nat) : Int))), (0, .ref (B + 3)), (1, .ref (B + 143))]) hx hb udX10_readSyllables_118 rfl hl (by decide) rfl (fun ls hl => ?_)
                      refine lv_goto (tgt := 124) hx hb udX10_readSyllables_119 (by decide) ?_
                      refine lv_aload_n hx hb udX10_readSyllables_124 rfl (lv_at hl 2 rfl) ?_
                      refine lv_aload_n hx hb udX10_readSyllables_125 rfl (lv_at hl 2 rfl) ?_
                      refine f_10_0 F w (a := 3) rfl utb_25 udX10_readSyllables_126 ?_
                      refine lv_aload_n hx hb udX10_readSyllables_129 rfl (lv_at hl 2 rfl) ?_
                      refine f_10_1 F w (a := 3) rfl utb_26 udX10_readSyllables_130 ?_
                      refine r_val (v := (zI (i : Int))) (hD2.2.1) ?_
                      refine lv_iconst (v := zI 1) hx hb udX10_readSyllables_133 rfl ?_
                      refine z_iadd (z := (((i + 1) : Nat) : Int)) hx hb udX10_readSyllables_134 (by omega) ?_
                      refine x_Vi F w (As := [.int (zI (((i + 1) : Nat) : Int))]) (rest := [.ref (B + 3)]) (a := 1) (kd_lt (a := 1) (show kd 1 = (8, 0, 0) from rfl) (by decide)) (sh_8 rfl _ _) rfl (s_X8_skipBlanks hT hD2.1 (i := (i + 1)) (by omega)) ugv_X10_34 uhv_X8_skipBlanks ⟨(by omega), (by omega)⟩ hl.1 rfl (Nat.le_of_ble_eq_true rfl) ⟨Nat.zero_le _, Nat.zero_le _⟩ udX10_readSyllables_135 (fun H locs w => ?_)
                      have hk77 := sk_le (T := T) (N := tn) (i := (i + 1)) (by omega)
                      refine u_10_1 F w (a := 3) rfl utb_26 udX10_readSyllables_138 (fun H locs w => ?_)
                      refine lv_goto (tgt := 17) hx hb udX10_readSyllables_141 (by decide) ?_
                      have hD79 : DS (st Ma77 3 1 (zI (((sk T tn (i + 1)) : Nat) : Int))) T tn (sk T tn (i + 1)) (syO y1 0 e9) o := DS.at hD2 (by omega)
                      have fD79 : FrD (st Ma77 3 1 (zI (((sk T tn (i + 1)) : Nat) : Int))) M := FrD.tr hF3 FrD.s
                      exact ih (sk T tn (i + 1)) 0 (st Ma77 3 1 (zI (((sk T tn (i + 1)) : Nat) : Int))) (syO y1 0 e9) (fu - 1) hD79 ((rs_y (by omega) (by omega) (by omega) (show hO (T i) = 0 by omega) (by omega)).symm.trans i1) fD79 (by omega) (by omega) (by omega) _ _ ls w (lv_sub hl [0, 2, 3] rfl)
                    · refine lv_iconst (v := zI 1) hx hb udX10_readSyllables_108 rfl ?_
                      refine lv_goto (tgt := 113) hx hb udX10_readSyllables_109 (by decide) ?_
                      refine lv_iload_n hx hb udX10_readSyllables_113 rfl (lv_at hl 1 rfl) ?_
                      refine k_Vv F w (As := [.int (zI 1), .int (zI (e9 : Int))]) (rest := []) (a := 143) (kd_lt (a := 143) (show kd 143 = (9, 0, 0) from rfl) (by decide)) (sh_9 rfl _ _) rfl (s_X9_addSyllable (a := 143) rfl i0.2.2.2.1 i0.2.2.2.wf (x := 1) (y := e9) (by omega) (by omega) (by omega)) ugv_X10_63 uhv_X9_addSyllable ⟨(by omega), (by omega)⟩ hl.1 rfl (Nat.le_of_ble_eq_true rfl) ⟨Nat.zero_le _, Nat.zero_le _⟩ udX10_readSyllables_114 (fun Ma80 H locs hp w => ?_)
                      rcases hp with ⟨hW2, hF2⟩
                      have hD2 : DS Ma80 T tn i (syO y1 1 e9) o := DS.w i0 hF2 (CW.sy i0.2.2.2 hW2 (by omega))
                      have hF3 : FrD Ma80 M := FrD.tr i2 (FrD.w hF2)
                      refine lv_iconst (v := zI 0) hx hb udX10_readSyllables_117 rfl ?_
                      refine lv_istore_n (lv' := [(2, .int (zI 0)), (3, .int (zI (((T i) : Nat) : Int))), (0, .ref (B + 3)), (1, .ref (B + 143))]) hx hb udX10_readSyllables_118 rfl hl (by decide) rfl (fun ls hl => ?_)
                      refine lv_goto (tgt := 124) hx hb udX10_readSyllables_119 (by decide) ?_
                      refine lv_aload_n hx hb udX10_readSyllables_124 rfl (lv_at hl 2 rfl) ?_
                      refine lv_aload_n hx hb udX10_readSyllables_125 rfl (lv_at hl 2 rfl) ?_
                      refine f_10_0 F w (a := 3) rfl utb_25 udX10_readSyllables_126 ?_
                      refine lv_aload_n hx hb udX10_readSyllables_129 rfl (lv_at hl 2 rfl) ?_
                      refine f_10_1 F w (a := 3) rfl utb_26 udX10_readSyllables_130 ?_
                      refine r_val (v := (zI (i : Int))) (hD2.2.1) ?_
                      refine lv_iconst (v := zI 1) hx hb udX10_readSyllables_133 rfl ?_
                      refine z_iadd (z := (((i + 1) : Nat) : Int)) hx hb udX10_readSyllables_134 (by omega) ?_
                      refine x_Vi F w (As := [.int (zI (((i + 1) : Nat) : Int))]) (rest := [.ref (B + 3)]) (a := 1) (kd_lt (a := 1) (show kd 1 = (8, 0, 0) from rfl) (by decide)) (sh_8 rfl _ _) rfl (s_X8_skipBlanks hT hD2.1 (i := (i + 1)) (by omega)) ugv_X10_34 uhv_X8_skipBlanks ⟨(by omega), (by omega)⟩ hl.1 rfl (Nat.le_of_ble_eq_true rfl) ⟨Nat.zero_le _, Nat.zero_le _⟩ udX10_readSyllables_135 (fun H locs w => ?_)
                      have hk80 := sk_le (T := T) (N := tn) (i := (i + 1)) (by omega)
                      refine u_10_1 F w (a := 3) rfl utb_26 udX10_readSyllables_138 (fun H locs w => ?_)
                      refine lv_goto (tgt := 17) hx hb udX10_readSyllables_141 (by decide) ?_
                      have hD82 : DS (st Ma80 3 1 (zI (((sk T tn (i + 1)) : Nat) : Int))) T tn (sk T tn (i + 1)) (syO y1 1 e9) o := DS.at hD2 (by omega)
                      have fD82 : FrD (st Ma80 3 1 (zI (((sk T tn (i + 1)) : Nat) : Int))) M := FrD.tr hF3 FrD.s
                      exact ih (sk T tn (i + 1)) 0 (st Ma80 3 1 (zI (((sk T tn (i + 1)) : Nat) : Int))) (syO y1 1 e9) (fu - 1) hD82 ((rs_y (by omega) (by omega) (by omega) (show hO (T i) = 1 by omega) (by omega)).symm.trans i1) fD82 (by omega) (by omega) (by omega) _ _ ls w (lv_sub hl [0, 2, 3] rfl)
            · refine lv_iconst (v := zI 1) hx hb udX10_readSyllables_75 rfl ?_
              refine lv_istore_n (lv' := [(2, .int (zI 1)), (3, .int (zI (((T i) : Nat) : Int))), (0, .ref (B + 3)), (1, .ref (B + 143))]) hx hb udX10_readSyllables_76 rfl hl (by decide) rfl (fun ls hl => ?_)
              refine lv_goto (tgt := 124) hx hb udX10_readSyllables_77 (by decide) ?_
              refine lv_aload_n hx hb udX10_readSyllables_124 rfl (lv_at hl 2 rfl) ?_
              refine lv_aload_n hx hb udX10_readSyllables_125 rfl (lv_at hl 2 rfl) ?_
              refine f_10_0 F w (a := 3) rfl utb_25 udX10_readSyllables_126 ?_
              refine lv_aload_n hx hb udX10_readSyllables_129 rfl (lv_at hl 2 rfl) ?_
              refine f_10_1 F w (a := 3) rfl utb_26 udX10_readSyllables_130 ?_
              refine r_val (v := (zI (i : Int))) (i0.2.1) ?_
              refine lv_iconst (v := zI 1) hx hb udX10_readSyllables_133 rfl ?_
              refine z_iadd (z := (((i + 1) : Nat) : Int)) hx hb udX10_readSyllables_134 (by omega) ?_
              refine x_Vi F w (As := [.int (zI (((i + 1) : Nat) : Int))]) (rest := [.ref (B + 3)]) (a := 1) (kd_lt (a := 1) (show kd 1 = (8, 0, 0) from rfl) (by decide)) (sh_8 rfl _ _) rfl (s_X8_skipBlanks hT i0.1 (i := (i + 1)) (by omega)) ugv_X10_34 uhv_X8_skipBlanks ⟨(by omega), (by omega)⟩ hl.1 rfl (Nat.le_of_ble_eq_true rfl) ⟨Nat.zero_le _, Nat.zero_le _⟩ udX10_readSyllables_135 (fun H locs w => ?_)
              have hk82 := sk_le (T := T) (N := tn) (i := (i + 1)) (by omega)
              refine u_10_1 F w (a := 3) rfl utb_26 udX10_readSyllables_138 (fun H locs w => ?_)
              refine lv_goto (tgt := 17) hx hb udX10_readSyllables_141 (by decide) ?_
              have hD84 : DS (st Nm 3 1 (zI (((sk T tn (i + 1)) : Nat) : Int))) T tn (sk T tn (i + 1)) y1 o := DS.at i0 (by omega)
              have fD84 : FrD (st Nm 3 1 (zI (((sk T tn (i + 1)) : Nat) : Int))) M := FrD.tr i2 FrD.s
              exact ih (sk T tn (i + 1)) 1 (st Nm 3 1 (zI (((sk T tn (i + 1)) : Nat) : Int))) y1 (fu - 1) hD84 ((rs_d (by omega) (by omega) (by omega) (by omega)).symm.trans i1) fD84 (by omega) (by omega) (by omega) _ _ ls w (lv_sub hl [0, 2, 3] rfl)
        · refine lv_aload_n hx hb udX10_readSyllables_53 rfl (lv_at hl 2 rfl) ?_
          refine lv_dup hx hb udX10_readSyllables_54 rfl ?_
          refine f_10_1 F w (a := 3) rfl utb_26 udX10_readSyllables_55 ?_
          refine r_val (v := (zI (i : Int))) (i0.2.1) ?_
          refine lv_iconst (v := zI 1) hx hb udX10_readSyllables_58 rfl ?_
          refine z_iadd (z := (((i + 1) : Nat) : Int)) hx hb udX10_readSyllables_59 (by omega) ?_
          refine u_10_1 F w (a := 3) rfl utb_26 udX10_readSyllables_60 (fun H locs w => ?_)
          refine lv_iconst (v := zI 1) hx hb udX10_readSyllables_63 rfl ?_
          have hD85 : DS (st Nm 3 1 (zI (((i + 1) : Nat) : Int))) T tn (i + 1) y1 o := DS.at i0 (by omega)
          have fD85 : FrD (st Nm 3 1 (zI (((i + 1) : Nat) : Int))) M := FrD.tr i2 FrD.s
          exact e_z F w hr hlocks (nar_z (by omega)) (Or.inl ⟨_, _, i1.symm.trans (rs_s (by omega) (by omega) (by omega) (by omega)), rfl, hD85, fD85⟩) udX10_readSyllables_64
theorem udX10_readSyllables_0 : decode cX10_readSyllables 0 = .ok (.iconst 0, 1) := dq0 kk_3 (by decide +kernel)
theorem udX10_readSyllables_1 : decode cX10_readSyllables 1 = .ok (.istore_n 2, 1) := dq0 kk_61 (by decide +kernel)
theorem udX10_readSyllables_2 : decode cX10_readSyllables 2 = .ok (.aload_n 0, 1) := dq0 kk_42 (by decide +kernel)
theorem udX10_readSyllables_3 : decode cX10_readSyllables 3 = .ok (.aload_n 0, 1) := dq0 kk_42 (by decide +kernel)
theorem udX10_readSyllables_4 : decode cX10_readSyllables 4 = .ok (.getfield 15, 3) := dqV kk_180 (by decide +kernel)
theorem udX10_readSyllables_7 : decode cX10_readSyllables 7 = .ok (.aload_n 0, 1) := dq0 kk_42 (by decide +kernel)
theorem udX10_readSyllables_8 : decode cX10_readSyllables 8 = .ok (.getfield 9, 3) := dqV kk_180 (by decide +kernel)
theorem udX10_readSyllables_11 : decode cX10_readSyllables 11 = .ok (.invokevirtual 34, 3) := dqV kk_182 (by decide +kernel)
theorem udX10_readSyllables_14 : decode cX10_readSyllables 14 = .ok (.putfield 9, 3) := dqV kk_181 (by decide +kernel)
theorem udX10_readSyllables_144 : decode cX10_readSyllables 144 = .ok (.iconst 0, 1) := dq0 kk_3 (by decide +kernel)
theorem udX10_readSyllables_145 : decode cX10_readSyllables 145 = .ok (.ireturn, 1) := dq0 kk_172 (by decide +kernel)
set_option maxRecDepth 4000 in
theorem s_X10_readSyllables {l : Launch} {D : va_G} {B : Nat} {cy : Nat → ClassId} {M : Mem} {T : Nat → Nat} {tn : Nat} (hT : okT T tn) {b : Nat} {y : Sy} {o : Wo} (hD : DS M T tn b y o) : Ci l D B cy yX10_readSyllables cX10_readSyllables 4 (some .boolean) 2 46 [.ref (B + 3), .ref (B + 143)] M (fun r M1 => RSQ T tn (rsF T tn 301 (sk T tn b) 0 y) o M r M1) := by
  refine s_any (by decide) (Nat.le_of_ble_eq_true rfl) ?_
  intro p e s m below meth c ls F hr hlocks w hl
  have F : CallFix p m c cX10_readSyllables 4 s _ TB RX10 := F
  have hx := F.1
  have hb := F.2.1
  have hl : lv_has ls 4 [(0, .ref (B + 3)), (1, .ref (B + 143))] := hl
  have hN := hT.1
  have hbN := hD.2.2.1
  refine lv_iconst (v := zI 0) hx hb udX10_readSyllables_0 rfl ?_
  refine lv_istore_n (lv' := [(2, .int (zI 0)), (0, .ref (B + 3)), (1, .ref (B + 143))]) hx hb udX10_readSyllables_1 rfl hl (by decide) rfl (fun ls hl => ?_)
  refine lv_aload_n hx hb udX10_readSyllables_2 rfl (lv_at hl 1 rfl) ?_
  refine lv_aload_n hx hb udX10_readSyllables_3 rfl (lv_at hl 1 rfl) ?_
  refine f_10_0 F w (a := 3) rfl utb_25 udX10_readSyllables_4 ?_
  refine lv_aload_n hx hb udX10_readSyllables_7 rfl (lv_at hl 1 rfl) ?_
  refine f_10_1 F w (a := 3) rfl utb_26 udX10_readSyllables_8 ?_
  refine r_val (v := (zI (b : Int))) (hD.2.1) ?_
  refine x_Vi F w (As := [.int (zI (b : Int))]) (rest := [.ref (B + 3)]) (a := 1) (kd_lt (a := 1) (show kd 1 = (8, 0, 0) from rfl) (by decide)) (sh_8 rfl _ _) rfl (s_X8_skipBlanks hT hD.1 (i := b) (by omega)) ugv_X10_34 uhv_X8_skipBlanks ⟨(Nat.le_of_ble_eq_true rfl), (Nat.le_of_ble_eq_true rfl)⟩ hl.1 rfl (Nat.le_of_ble_eq_true rfl) ⟨Nat.zero_le _, Nat.zero_le _⟩ udX10_readSyllables_11 (fun H locs w => ?_)
  have hk0 := sk_le (T := T) (N := tn) (i := b) (by omega)
  refine u_10_1 F w (a := 3) rfl utb_26 udX10_readSyllables_14 (fun H locs w => ?_)
  have hD2 : DS (st M 3 1 (zI (((sk T tn b) : Nat) : Int))) T tn (sk T tn b) y o := DS.at hD (by omega)
  have fD2 : FrD (st M 3 1 (zI (((sk T tn b) : Nat) : Int))) M := FrD.tr FrD.rf FrD.s
  refine lp_X10_syllables  F hr hlocks (Nat.le_of_ble_eq_true rfl) (Nat.le_of_ble_eq_true rfl) hT (fun i e9 Nm y1 fu H locs ls x0 x1 x2 w hl => ?_) tn (sk T tn b) 0 (st M 3 1 (zI (((sk T tn b) : Nat) : Int))) y 301 hD2 rfl fD2 (by omega) (by omega) (by omega) _ _ ls w (lv_sub hl [0, 1, 2] rfl)
  refine lv_iconst (v := zI 0) hx hb udX10_readSyllables_144 rfl ?_
  exact e_z F w hr hlocks (nar_z (by omega)) (Or.inr ⟨x0, rfl, x1, x2⟩) udX10_readSyllables_145
