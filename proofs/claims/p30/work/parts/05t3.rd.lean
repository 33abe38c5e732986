theorem rdX5_choiceOf_24 : decode cX5_choiceOf 24 = .ok (.iload 5, 2) := dqU kk_21 (by decide +kernel)
theorem rdX5_choiceOf_26 : decode cX5_choiceOf 26 = .ok (.aload_n 1, 1) := dq0 kk_43 (by decide +kernel)
theorem rdX5_choiceOf_27 : decode cX5_choiceOf 27 = .ok (.invokevirtual 116, 3) := dqV kk_182 (by decide +kernel)
theorem rtk_J0_length_8abf5 : Cond.code yJ0_length_8abf5 cJ0_length_8abf5 1 (some .int) ∈ TB := tbm (tc2 (List.mem_of_getElem? (i := 142) rfl)) rfl
theorem rgc_J0_length_8abf5 : GoodIn TB (cw yJ0_length_8abf5 cJ0_length_8abf5 1 (some .int)) := goodIn_c2 rtk_J0_length_8abf5
theorem rtb_38 : Cond.methodLink "ToneLines$RuleReader" 116 yJ0_length_8abf5 ∈ TB := tbm (tc3 (List.mem_of_getElem? (i := 73) rfl)) rfl
theorem rtb_39 : Cond.instanceMethod yJ0_length_8abf5 ∈ TB := tbm (tc2 (List.mem_of_getElem? (i := 140) rfl)) rfl
theorem rtb_40 : Cond.selects "java/lang/String" yJ0_length_8abf5 yJ0_length_8abf5 ∈ TB := tbm (tc2 (List.mem_of_getElem? (i := 141) rfl)) rfl
theorem rgv_X5_116 : GoodIn TB (wsV RX5 116 RJ0 yJ0_length_8abf5 (cw yJ0_length_8abf5 cJ0_length_8abf5 1 (some .int))) := goodIn_4 rtb_38 rtb_39 rtb_40 rtb_6 rgc_J0_length_8abf5
theorem rhv_J0_length_8abf5 : yJ0_length_8abf5.cls = RJ0 ∧ yJ0_length_8abf5.cls ≠ "java/lang/invoke/MethodHandle" ∧ yJ0_length_8abf5.cls ≠ "java/lang/invoke/VarHandle" ∧ (parseMethodDescriptor yJ0_length_8abf5.desc).map (fun d => d.parameters.length) = some 0 := by decide +kernel
theorem rdX5_choiceOf_30 : decode cX5_choiceOf 30 = .ok (.if_icmp .gt 109, 3) := dqT kk_163 (by decide +kernel)
theorem rdX5_choiceOf_33 : decode cX5_choiceOf 33 = .ok (.iload 5, 2) := dqU kk_21 (by decide +kernel)
theorem rdX5_choiceOf_35 : decode cX5_choiceOf 35 = .ok (.aload_n 1, 1) := dq0 kk_43 (by decide +kernel)
theorem rdX5_choiceOf_36 : decode cX5_choiceOf 36 = .ok (.invokevirtual 116, 3) := dqV kk_182 (by decide +kernel)
theorem rdX5_choiceOf_39 : decode cX5_choiceOf 39 = .ok (.if_icmp .eq 14, 3) := dqT kk_159 (by decide +kernel)
theorem rdX5_choiceOf_53 : decode cX5_choiceOf 53 = .ok (.iload 4, 2) := dqU kk_21 (by decide +kernel)
theorem rdX5_choiceOf_55 : decode cX5_choiceOf 55 = .ok (.ifCond .eq 13, 3) := dqT kk_153 (by decide +kernel)
theorem rdX5_choiceOf_68 : decode cX5_choiceOf 68 = .ok (.iinc 2 1, 3) := dqI kk_132 (by decide +kernel)
theorem rdX5_choiceOf_71 : decode cX5_choiceOf 71 = .ok (.aload_n 0, 1) := dq0 kk_42 (by decide +kernel)
theorem rdX5_choiceOf_72 : decode cX5_choiceOf 72 = .ok (.getfield 21, 3) := dqV kk_180 (by decide +kernel)
theorem rdX5_choiceOf_75 : decode cX5_choiceOf 75 = .ok (.istore_n 3, 1) := dq0 kk_62 (by decide +kernel)
theorem rdX5_choiceOf_76 : decode cX5_choiceOf 76 = .ok (.aload_n 0, 1) := dq0 kk_42 (by decide +kernel)
theorem rdX5_choiceOf_77 : decode cX5_choiceOf 77 = .ok (.getfield 27, 3) := dqV kk_180 (by decide +kernel)
theorem rdX5_choiceOf_80 : decode cX5_choiceOf 80 = .ok (.ifCond .ne 7, 3) := dqT kk_154 (by decide +kernel)
theorem rdX5_choiceOf_87 : decode cX5_choiceOf 87 = .ok (.iconst 0, 1) := dq0 kk_3 (by decide +kernel)
theorem rdX5_choiceOf_88 : decode cX5_choiceOf 88 = .ok (.istore 4, 2) := dqU kk_54 (by decide +kernel)
theorem rdX5_choiceOf_90 : decode cX5_choiceOf 90 = .ok (.goto 43, 3) := dqT kk_167 (by decide +kernel)
theorem rdX5_choiceOf_133 : decode cX5_choiceOf 133 = .ok (.iinc 5 1, 3) := dqI kk_132 (by decide +kernel)
theorem rdX5_choiceOf_136 : decode cX5_choiceOf 136 = .ok (.goto (-112), 3) := dqT kk_167 (by decide +kernel)
theorem rdX5_choiceOf_83 : decode cX5_choiceOf 83 = .ok (.iconst 1, 1) := dq0 kk_4 (by decide +kernel)
theorem rdX5_choiceOf_84 : decode cX5_choiceOf 84 = .ok (.goto 4, 3) := dqT kk_167 (by decide +kernel)
theorem rdX5_choiceOf_58 : decode cX5_choiceOf 58 = .ok (.iload_n 3, 1) := dq0 kk_29 (by decide +kernel)
theorem rdX5_choiceOf_59 : decode cX5_choiceOf 59 = .ok (.aload_n 0, 1) := dq0 kk_42 (by decide +kernel)
theorem rdX5_choiceOf_60 : decode cX5_choiceOf 60 = .ok (.getfield 24, 3) := dqV kk_180 (by decide +kernel)
theorem rdX5_choiceOf_63 : decode cX5_choiceOf 63 = .ok (.if_icmp .ne 5, 3) := dqT kk_160 (by decide +kernel)
theorem rdX5_choiceOf_66 : decode cX5_choiceOf 66 = .ok (.iload_n 2, 1) := dq0 kk_28 (by decide +kernel)
theorem rdX5_choiceOf_67 : decode cX5_choiceOf 67 = .ok (.ireturn, 1) := dq0 kk_172 (by decide +kernel)
theorem rdX5_choiceOf_42 : decode cX5_choiceOf 42 = .ok (.aload_n 1, 1) := dq0 kk_43 (by decide +kernel)
theorem rdX5_choiceOf_43 : decode cX5_choiceOf 43 = .ok (.iload 5, 2) := dqU kk_21 (by decide +kernel)
theorem rdX5_choiceOf_45 : decode cX5_choiceOf 45 = .ok (.invokevirtual 122, 3) := dqV kk_182 (by decide +kernel)
theorem rtk_J0_charAt_5068e : Cond.code yJ0_charAt_5068e cJ0_charAt_5068e 2 (some .char) ∈ TB := tbm (tc3 (List.mem_of_getElem? (i := 77) rfl)) rfl
theorem rgc_J0_charAt_5068e : GoodIn TB (cw yJ0_charAt_5068e cJ0_charAt_5068e 2 (some .char)) := goodIn_c2 rtk_J0_charAt_5068e
theorem rtb_41 : Cond.methodLink "ToneLines$RuleReader" 122 yJ0_charAt_5068e ∈ TB := tbm (tc3 (List.mem_of_getElem? (i := 74) rfl)) rfl
theorem rtb_42 : Cond.instanceMethod yJ0_charAt_5068e ∈ TB := tbm (tc3 (List.mem_of_getElem? (i := 75) rfl)) rfl
theorem rtb_43 : Cond.selects "java/lang/String" yJ0_charAt_5068e yJ0_charAt_5068e ∈ TB := tbm (tc3 (List.mem_of_getElem? (i := 76) rfl)) rfl
theorem rgv_X5_122 : GoodIn TB (wsV RX5 122 RJ0 yJ0_charAt_5068e (cw yJ0_charAt_5068e cJ0_charAt_5068e 2 (some .char))) := goodIn_4 rtb_41 rtb_42 rtb_43 rtb_6 rgc_J0_charAt_5068e
theorem rhv_J0_charAt_5068e : yJ0_charAt_5068e.cls = RJ0 ∧ yJ0_charAt_5068e.cls ≠ "java/lang/invoke/MethodHandle" ∧ yJ0_charAt_5068e.cls ≠ "java/lang/invoke/VarHandle" ∧ (parseMethodDescriptor yJ0_charAt_5068e.desc).map (fun d => d.parameters.length) = some 1 := by decide +kernel
theorem rdX5_choiceOf_48 : decode cX5_choiceOf 48 = .ok (.bipush 32, 2) := dqS kk_16 (by decide +kernel)
theorem rdX5_choiceOf_50 : decode cX5_choiceOf 50 = .ok (.if_icmp .ne 43, 3) := dqT kk_160 (by decide +kernel)
theorem rdX5_choiceOf_93 : decode cX5_choiceOf 93 = .ok (.iload 4, 2) := dqU kk_21 (by decide +kernel)
theorem rdX5_choiceOf_95 : decode cX5_choiceOf 95 = .ok (.ifCond .eq 32, 3) := dqT kk_153 (by decide +kernel)
theorem rdX5_choiceOf_127 : decode cX5_choiceOf 127 = .ok (.iconst 0, 1) := dq0 kk_3 (by decide +kernel)
theorem rdX5_choiceOf_128 : decode cX5_choiceOf 128 = .ok (.istore 4, 2) := dqU kk_54 (by decide +kernel)
theorem rdX5_choiceOf_130 : decode cX5_choiceOf 130 = .ok (.iinc 3 1, 3) := dqI kk_132 (by decide +kernel)
theorem rdX5_choiceOf_98 : decode cX5_choiceOf 98 = .ok (.iload_n 3, 1) := dq0 kk_29 (by decide +kernel)
theorem rdX5_choiceOf_99 : decode cX5_choiceOf 99 = .ok (.aload_n 0, 1) := dq0 kk_42 (by decide +kernel)
theorem rdX5_choiceOf_100 : decode cX5_choiceOf 100 = .ok (.getfield 24, 3) := dqV kk_180 (by decide +kernel)
theorem rdX5_choiceOf_103 : decode cX5_choiceOf 103 = .ok (.if_icmp .ge 24, 3) := dqT kk_162 (by decide +kernel)
theorem rdX5_choiceOf_106 : decode cX5_choiceOf 106 = .ok (.aload_n 0, 1) := dq0 kk_42 (by decide +kernel)
theorem rdX5_choiceOf_107 : decode cX5_choiceOf 107 = .ok (.getfield 31, 3) := dqV kk_180 (by decide +kernel)
theorem rdX5_choiceOf_110 : decode cX5_choiceOf 110 = .ok (.iload_n 3, 1) := dq0 kk_29 (by decide +kernel)
theorem rdX5_choiceOf_111 : decode cX5_choiceOf 111 = .ok (.invokevirtual 52, 3) := dqV kk_182 (by decide +kernel)
theorem rdX5_choiceOf_114 : decode cX5_choiceOf 114 = .ok (.aload_n 1, 1) := dq0 kk_43 (by decide +kernel)
theorem rdX5_choiceOf_115 : decode cX5_choiceOf 115 = .ok (.iload 5, 2) := dqU kk_21 (by decide +kernel)
theorem rdX5_choiceOf_117 : decode cX5_choiceOf 117 = .ok (.invokevirtual 122, 3) := dqV kk_182 (by decide +kernel)
theorem rdX5_choiceOf_120 : decode cX5_choiceOf 120 = .ok (.if_icmp .ne 7, 3) := dqT kk_160 (by decide +kernel)
theorem rdX5_choiceOf_123 : decode cX5_choiceOf 123 = .ok (.iconst 1, 1) := dq0 kk_4 (by decide +kernel)
theorem rdX5_choiceOf_124 : decode cX5_choiceOf 124 = .ok (.goto 4, 3) := dqT kk_167 (by decide +kernel)
set_option maxRecDepth 4000 in
theorem lp_X5_choiceOf {p : Program} {l : Launch} {e : Env} {s : State} {m : MethodId} {args : Array Value} {below : List Frame} {meth : Method} {c : Code} {D : va_G} {B : Nat} {cy : Nat → ClassId}  {M : Mem} {R : Room} {T : Nat → Nat} {tn b i9 k0 : Nat} (F : CallFix p m c cX5_choiceOf 6 s args TB RX5) (hr : meth.sig.returnType = (some .int)) (hlocks : meth.locks = false) (hR1 : 4 ≤ R.frames) (hR2 : 85 ≤ R.locals) (hT : okT T tn) (hTc : isTc M T tn) (hR : RS M T tn b) (hi9 : i9 < NSL) (h0 : 0 < i9) (hk0 : k0 = 1 - jn T tn b) (kk : ∀ (j : Nat) (cc : Nat) (aa : Nat) (ka : Nat) (H : Heap) (locs : List Loc) (ls : Array Slot), (srI T tn b i9 j cc aa ka) → (slN i9 < (j : Int)) → Wd D B cy s s.heap M H locs → lv_has ls 6 [(5, .int (zI (j : Int))), (4, .int (zI (ka : Int))), (3, .int (zI (aa : Int))), (2, .int (zI (cc : Int))), (0, .ref (B + 4)), (1, .ref (D.2 200 i9))] → W p l e R s m args below meth c H locs 0 0 (MQ below (va_Qi (fun r M1 => r = zI (tk T tn b (slLo i9) (slHi i9)) ∧ M1 = M) (fun M2 t2 => Wp D B cy M2 t2) (fun q2 => B ≤ q2)) args s 0 0 (fun q2 => B ≤ q2)) (F0 m 139 ls [])) : ∀ (f : Nat) (j : Nat) (cc : Nat) (aa : Nat) (ka : Nat), ((j : Int) ≤ slN i9 + 1) → (cc ≤ j) → (sk T tn b ≤ aa) → (aa ≤ sk T tn b + j) → (ka = 0 ∨ ka = 1) → (srI T tn b i9 j cc aa ka) → (slN i9 + 1 ≤ (j : Int) + (f : Int)) → ∀ (H : Heap) (locs : List Loc) (ls : Array Slot), Wd D B cy s s.heap M H locs → lv_has ls 6 [(5, .int (zI (j : Int))), (4, .int (zI (ka : Int))), (3, .int (zI (aa : Int))), (2, .int (zI (cc : Int))), (0, .ref (B + 4)), (1, .ref (D.2 200 i9))] → W p l e R s m args below meth c H locs 0 0 (MQ below (va_Qi (fun r M1 => r = zI (tk T tn b (slLo i9) (slHi i9)) ∧ M1 = M) (fun M2 t2 => Wp D B cy M2 t2) (fun q2 => B ≤ q2)) args s 0 0 (fun q2 => B ≤ q2)) (F0 m 24 ls []) := by
  have hx := F.1
  have hb := F.2.1
  have hN := hT.1
  have hb9 := hR.1
  have hskb := sk_le (T := T) hR.1
  have henb := en_le (T := T) hR.1
  have hjn := jn_01 T tn b
  have hsn := sl_len hi9
  intro f
  induction f with
  | zero =>
    intro j cc aa ka i0 i1 i2 i3 i4 i5 hf H locs ls w hl
    refine lv_iload hx hb rdX5_choiceOf_24 (lv_at hl 0 rfl) ?_
    refine lv_aload_n hx hb rdX5_choiceOf_26 rfl (lv_at hl 5 rfl) ?_
    refine k_Qi F w (As := []) (rest := [.int (zI (j : Int))]) (i := i9) hi9 (t_length (i9 := i9) hi9) rgv_X5_116 rhv_J0_length_8abf5 ⟨(by omega), (by omega)⟩ hl.1 rfl (Nat.le_of_ble_eq_true rfl) ⟨Nat.zero_le _, Nat.zero_le _⟩ rdX5_choiceOf_27 (fun r M1 H locs hp w => ?_)
    obtain ⟨rfl, hMe⟩ := hp
    rw [hMe] at w
    refine z_icmp_gt (tgt := 139) hx hb (by omega) (by omega) rdX5_choiceOf_30 (by decide) (fun c1 => ?_) (fun c1 => False.elim (by omega))
    exact kk j cc aa ka _ _ ls i5 (by omega) w (lv_sub hl [0, 1, 2, 3, 4, 5] rfl)
  | succ f ih =>
    intro j cc aa ka i0 i1 i2 i3 i4 i5 hf H locs ls w hl
    refine lv_iload hx hb rdX5_choiceOf_24 (lv_at hl 0 rfl) ?_
    refine lv_aload_n hx hb rdX5_choiceOf_26 rfl (lv_at hl 5 rfl) ?_
    refine k_Qi F w (As := []) (rest := [.int (zI (j : Int))]) (i := i9) hi9 (t_length (i9 := i9) hi9) rgv_X5_116 rhv_J0_length_8abf5 ⟨(by omega), (by omega)⟩ hl.1 rfl (Nat.le_of_ble_eq_true rfl) ⟨Nat.zero_le _, Nat.zero_le _⟩ rdX5_choiceOf_27 (fun r M1 H locs hp w => ?_)
    obtain ⟨rfl, hMe⟩ := hp
    rw [hMe] at w
    refine z_icmp_gt (tgt := 139) hx hb (by omega) (by omega) rdX5_choiceOf_30 (by decide) (fun c1 => ?_) (fun c1 => ?_)
    · exact kk j cc aa ka _ _ ls i5 (by omega) w (lv_sub hl [0, 1, 2, 3, 4, 5] rfl)
    · refine lv_iload hx hb rdX5_choiceOf_33 (lv_at hl 0 rfl) ?_
      refine lv_aload_n hx hb rdX5_choiceOf_35 rfl (lv_at hl 5 rfl) ?_
      refine k_Qi F w (As := []) (rest := [.int (zI (j : Int))]) (i := i9) hi9 (t_length (i9 := i9) hi9) rgv_X5_116 rhv_J0_length_8abf5 ⟨(by omega), (by omega)⟩ hl.1 rfl (Nat.le_of_ble_eq_true rfl) ⟨Nat.zero_le _, Nat.zero_le _⟩ rdX5_choiceOf_36 (fun r M1 H locs hp w => ?_)
      obtain ⟨rfl, hMe⟩ := hp
      rw [hMe] at w
      refine z_icmp_eq (tgt := 53) hx hb (by omega) (by omega) rdX5_choiceOf_39 (by decide) (fun c2 => ?_) (fun c2 => ?_)
      · refine lv_iload hx hb rdX5_choiceOf_53 (lv_at hl 1 rfl) ?_
        refine z_if_eq (tgt := 68) hx hb (by omega) rdX5_choiceOf_55 (by decide) (fun c3 => ?_) (fun c3 => ?_)
        · refine z_iinc (v := (((cc + 1) : Nat) : Int)) (lv' := [(2, .int (zI (((cc + 1) : Nat) : Int))), (5, .int (zI (j : Int))), (4, .int (zI (ka : Int))), (3, .int (zI (aa : Int))), (0, .ref (B + 4)), (1, .ref (D.2 200 i9))]) hx hb rdX5_choiceOf_68 hl (k := 3) rfl (by omega) (by decide) rfl (fun ls hl => ?_)
          refine lv_aload_n hx hb rdX5_choiceOf_71 rfl (lv_at hl 4 rfl) ?_
          refine f_5_3 F w (a := 4) rfl rtb_33 rdX5_choiceOf_72 ?_
          refine r_val (v := (zI (((sk T tn b) : Nat) : Int))) (hR.2.1) ?_
          refine lv_istore_n (lv' := [(3, .int (zI (((sk T tn b) : Nat) : Int))), (2, .int (zI (((cc + 1) : Nat) : Int))), (5, .int (zI (j : Int))), (4, .int (zI (ka : Int))), (0, .ref (B + 4)), (1, .ref (D.2 200 i9))]) hx hb rdX5_choiceOf_75 rfl hl (by decide) rfl (fun ls hl => ?_)
          refine lv_aload_n hx hb rdX5_choiceOf_76 rfl (lv_at hl 4 rfl) ?_
          refine f_5_5 F w (a := 4) rfl rtb_34 rdX5_choiceOf_77 ?_
          refine r_val (v := (zI (((jn T tn b) : Nat) : Int))) (hR.2.2.2) ?_
          refine z_if_ne (tgt := 87) hx hb (by omega) rdX5_choiceOf_80 (by decide) (fun c4 => ?_) (fun c4 => ?_)
          · refine lv_iconst (v := zI 0) hx hb rdX5_choiceOf_87 rfl ?_
            refine r_val (v := zI ((k0 : Nat) : Int)) (congrArg zI (by omega)) ?_
            refine lv_istore (lv' := [(4, .int (zI (k0 : Int))), (3, .int (zI (((sk T tn b) : Nat) : Int))), (2, .int (zI (((cc + 1) : Nat) : Int))), (5, .int (zI (j : Int))), (0, .ref (B + 4)), (1, .ref (D.2 200 i9))]) hx hb rdX5_choiceOf_88 hl (by decide) rfl (fun ls hl => ?_)
            refine lv_goto (tgt := 133) hx hb rdX5_choiceOf_90 (by decide) ?_
            refine z_iinc (v := (((j + 1) : Nat) : Int)) (lv' := [(5, .int (zI (((j + 1) : Nat) : Int))), (4, .int (zI (k0 : Int))), (3, .int (zI (((sk T tn b) : Nat) : Int))), (2, .int (zI (((cc + 1) : Nat) : Int))), (0, .ref (B + 4)), (1, .ref (D.2 200 i9))]) hx hb rdX5_choiceOf_133 hl (k := 3) rfl (by omega) (by decide) rfl (fun ls hl => ?_)
            refine lv_goto (tgt := 24) hx hb rdX5_choiceOf_136 (by decide) ?_
            exact ih (j + 1) (cc + 1) (sk T tn b) k0 (by omega) (by omega) (by omega) (by omega) (by omega) (srI_w hi9 i5 (by omega) (by omega) hk0) (by omega) _ _ ls w (lv_sub hl [0, 1, 2, 3, 4, 5] rfl)
          · refine lv_iconst (v := zI 1) hx hb rdX5_choiceOf_83 rfl ?_
            refine lv_goto (tgt := 88) hx hb rdX5_choiceOf_84 (by decide) ?_
            refine r_val (v := zI ((k0 : Nat) : Int)) (congrArg zI (by omega)) ?_
            refine lv_istore (lv' := [(4, .int (zI (k0 : Int))), (3, .int (zI (((sk T tn b) : Nat) : Int))), (2, .int (zI (((cc + 1) : Nat) : Int))), (5, .int (zI (j : Int))), (0, .ref (B + 4)), (1, .ref (D.2 200 i9))]) hx hb rdX5_choiceOf_88 hl (by decide) rfl (fun ls hl => ?_)
            refine lv_goto (tgt := 133) hx hb rdX5_choiceOf_90 (by decide) ?_
            refine z_iinc (v := (((j + 1) : Nat) : Int)) (lv' := [(5, .int (zI (((j + 1) : Nat) : Int))), (4, .int (zI (k0 : Int))), (3, .int (zI (((sk T tn b) : Nat) : Int))), (2, .int (zI (((cc + 1) : Nat) : Int))), (0, .ref (B + 4)), (1, .ref (D.2 200 i9))]) hx hb rdX5_choiceOf_133 hl (k := 3) rfl (by omega) (by decide) rfl (fun ls hl => ?_)
            refine lv_goto (tgt := 24) hx hb rdX5_choiceOf_136 (by decide) ?_
            exact ih (j + 1) (cc + 1) (sk T tn b) k0 (by omega) (by omega) (by omega) (by omega) (by omega) (srI_w hi9 i5 (by omega) (by omega) hk0) (by omega) _ _ ls w (lv_sub hl [0, 1, 2, 3, 4, 5] rfl)
        · refine lv_iload_n hx hb rdX5_choiceOf_58 rfl (lv_at hl 2 rfl) ?_
          refine lv_aload_n hx hb rdX5_choiceOf_59 rfl (lv_at hl 4 rfl) ?_
          refine f_5_4 F w (a := 4) rfl rtb_21 rdX5_choiceOf_60 ?_
          refine r_val (v := (zI (((en T tn b) : Nat) : Int))) (hR.2.2.1) ?_
          refine z_icmp_ne (tgt := 68) hx hb (by omega) (by omega) rdX5_choiceOf_63 (by decide) (fun c5 => ?_) (fun c5 => ?_)
          · refine z_iinc (v := (((cc + 1) : Nat) : Int)) (lv' := [(2, .int (zI (((cc + 1) : Nat) : Int))), (5, .int (zI (j : Int))), (4, .int (zI (ka : Int))), (3, .int (zI (aa : Int))), (0, .ref (B + 4)), (1, .ref (D.2 200 i9))]) hx hb rdX5_choiceOf_68 hl (k := 3) rfl (by omega) (by decide) rfl (fun ls hl => ?_)
            refine lv_aload_n hx hb rdX5_choiceOf_71 rfl (lv_at hl 4 rfl) ?_
            refine f_5_3 F w (a := 4) rfl rtb_33 rdX5_choiceOf_72 ?_
            refine r_val (v := (zI (((sk T tn b) : Nat) : Int))) (hR.2.1) ?_
            refine lv_istore_n (lv' := [(3, .int (zI (((sk T tn b) : Nat) : Int))), (2, .int (zI (((cc + 1) : Nat) : Int))), (5, .int (zI (j : Int))), (4, .int (zI (ka : Int))), (0, .ref (B + 4)), (1, .ref (D.2 200 i9))]) hx hb rdX5_choiceOf_75 rfl hl (by decide) rfl (fun ls hl => ?_)
            refine lv_aload_n hx hb rdX5_choiceOf_76 rfl (lv_at hl 4 rfl) ?_
            refine f_5_5 F w (a := 4) rfl rtb_34 rdX5_choiceOf_77 ?_
            refine r_val (v := (zI (((jn T tn b) : Nat) : Int))) (hR.2.2.2) ?_
            refine z_if_ne (tgt := 87) hx hb (by omega) rdX5_choiceOf_80 (by decide) (fun c6 => ?_) (fun c6 => ?_)
            · refine lv_iconst (v := zI 0) hx hb rdX5_choiceOf_87 rfl ?_
              refine r_val (v := zI ((k0 : Nat) : Int)) (congrArg zI (by omega)) ?_
              refine lv_istore (lv' := [(4, .int (zI (k0 : Int))), (3, .int (zI (((sk T tn b) : Nat) : Int))), (2, .int (zI (((cc + 1) : Nat) : Int))), (5, .int (zI (j : Int))), (0, .ref (B + 4)), (1, .ref (D.2 200 i9))]) hx hb rdX5_choiceOf_88 hl (by decide) rfl (fun ls hl => ?_)
              refine lv_goto (tgt := 133) hx hb rdX5_choiceOf_90 (by decide) ?_
              refine z_iinc (v := (((j + 1) : Nat) : Int)) (lv' := [(5, .int (zI (((j + 1) : Nat) : Int))), (4, .int (zI (k0 : Int))), (3, .int (zI (((sk T tn b) : Nat) : Int))), (2, .int (zI (((cc + 1) : Nat) : Int))), (0, .ref (B + 4)), (1, .ref (D.2 200 i9))]) hx hb rdX5_choiceOf_133 hl (k := 3) rfl (by omega) (by decide) rfl (fun ls hl => ?_)
              refine lv_goto (tgt := 24) hx hb rdX5_choiceOf_136 (by decide) ?_
              exact ih (j + 1) (cc + 1) (sk T tn b) k0 (by omega) (by omega) (by omega) (by omega) (by omega) (srI_w hi9 i5 (by omega) (by omega) hk0) (by omega) _ _ ls w (lv_sub hl [0, 1, 2, 3, 4, 5] rfl)
            · refine lv_iconst (v := zI 1) hx hb rdX5_choiceOf_83 rfl ?_
              refine lv_goto (tgt := 88) hx hb rdX5_choiceOf_84 (by decide) ?_
              refine r_val (v := zI ((k0 : Nat) : Int)) (congrArg zI (by omega)) ?_
              refine lv_istore (lv' := [(4, .int (zI (k0 : Int))), (3, .int (zI (((sk T tn b) : Nat) : Int))), (2, .int (zI (((cc + 1) : Nat) : Int))), (5, .int (zI (j : Int))), (0, .ref (B + 4)), (1, .ref (D.2 200 i9))]) hx hb rdX5_choiceOf_88 hl (by decide) rfl (fun ls hl => ?_)
              refine lv_goto (tgt := 133) hx hb rdX5_choiceOf_90 (by decide) ?_
              refine z_iinc (v := (((j + 1) : Nat) : Int)) (lv' := [(5, .int (zI (((j + 1) : Nat) : Int))), (4, .int (zI (k0 : Int))), (3, .int (zI (((sk T tn b) : Nat) : Int))), (2, .int (zI (((cc + 1) : Nat) : Int))), (0, .ref (B + 4)), (1, .ref (D.2 200 i9))]) hx hb rdX5_choiceOf_133 hl (k := 3) rfl (by omega) (by decide) rfl (fun ls hl => ?_)
              refine lv_goto (tgt := 24) hx hb rdX5_choiceOf_136 (by decide) ?_
              exact ih (j + 1) (cc + 1) (sk T tn b) k0 (by omega) (by omega) (by omega) (by omega) (by omega) (srI_w hi9 i5 (by omega) (by omega) hk0) (by omega) _ _ ls w (lv_sub hl [0, 1, 2, 3, 4, 5] rfl)
          · refine lv_iload_n hx hb rdX5_choiceOf_66 rfl (lv_at hl 3 rfl) ?_
            exact e_i F w hr hlocks ⟨congrArg zI (fnd_s hR.1 hi9 h0 (srI_r hi9 i5 (by omega) (by omega) (by omega))), rfl⟩ rdX5_choiceOf_67
      · refine lv_aload_n hx hb rdX5_choiceOf_42 rfl (lv_at hl 5 rfl) ?_
        refine lv_iload hx hb rdX5_choiceOf_43 (lv_at hl 0 rfl) ?_
        refine k_Qi F w (As := [.int (zI (j : Int))]) (rest := []) (i := i9) hi9 (t_charAt (i9 := i9) hi9 (j := j) (by omega)) rgv_X5_122 rhv_J0_charAt_5068e ⟨(by omega), (by omega)⟩ hl.1 rfl (Nat.le_of_ble_eq_true rfl) ⟨Nat.zero_le _, Nat.zero_le _⟩ rdX5_choiceOf_45 (fun r M1 H locs hp w => ?_)
        obtain ⟨rfl, hMe⟩ := hp
        rw [hMe] at w
        have hsx6 := slx_b (i := i9) hi9 (j := j) (by omega)
        refine lv_bipush (v := zI 32) hx hb rdX5_choiceOf_48 (by decide) ?_
        refine z_icmp_ne (tgt := 93) hx hb (by omega) (by omega) rdX5_choiceOf_50 (by decide) (fun c7 => ?_) (fun c7 => ?_)
        · refine lv_iload hx hb rdX5_choiceOf_93 (lv_at hl 1 rfl) ?_
          refine z_if_eq (tgt := 127) hx hb (by omega) rdX5_choiceOf_95 (by decide) (fun c8 => ?_) (fun c8 => ?_)
          · refine lv_iconst (v := zI 0) hx hb rdX5_choiceOf_127 rfl ?_
            refine lv_istore (lv' := [(4, .int (zI 0)), (5, .int (zI (j : Int))), (3, .int (zI (aa : Int))), (2, .int (zI (cc : Int))), (0, .ref (B + 4)), (1, .ref (D.2 200 i9))]) hx hb rdX5_choiceOf_128 hl (by decide) rfl (fun ls hl => ?_)
            refine z_iinc (v := (((aa + 1) : Nat) : Int)) (lv' := [(3, .int (zI (((aa + 1) : Nat) : Int))), (4, .int (zI 0)), (5, .int (zI (j : Int))), (2, .int (zI (cc : Int))), (0, .ref (B + 4)), (1, .ref (D.2 200 i9))]) hx hb rdX5_choiceOf_130 hl (k := 2) rfl (by omega) (by decide) rfl (fun ls hl => ?_)
            refine z_iinc (v := (((j + 1) : Nat) : Int)) (lv' := [(5, .int (zI (((j + 1) : Nat) : Int))), (3, .int (zI (((aa + 1) : Nat) : Int))), (4, .int (zI 0)), (2, .int (zI (cc : Int))), (0, .ref (B + 4)), (1, .ref (D.2 200 i9))]) hx hb rdX5_choiceOf_133 hl (k := 2) rfl (by omega) (by decide) rfl (fun ls hl => ?_)
            refine lv_goto (tgt := 24) hx hb rdX5_choiceOf_136 (by decide) ?_
            exact ih (j + 1) cc (aa + 1) 0 (by omega) (by omega) (by omega) (by omega) (by omega) (srI_n hi9 i5 (by omega) (by omega) (by omega)) (by omega) _ _ ls w (lv_sub hl [0, 2, 1, 3, 4, 5] rfl)
          · refine lv_iload_n hx hb rdX5_choiceOf_98 rfl (lv_at hl 2 rfl) ?_
            refine lv_aload_n hx hb rdX5_choiceOf_99 rfl (lv_at hl 4 rfl) ?_
            refine f_5_4 F w (a := 4) rfl rtb_21 rdX5_choiceOf_100 ?_
            refine r_val (v := (zI (((en T tn b) : Nat) : Int))) (hR.2.2.1) ?_
            refine z_icmp_ge (tgt := 127) hx hb (by omega) (by omega) rdX5_choiceOf_103 (by decide) (fun c9 => ?_) (fun c9 => ?_)
            · refine lv_iconst (v := zI 0) hx hb rdX5_choiceOf_127 rfl ?_
              refine lv_istore (lv' := [(4, .int (zI 0)), (5, .int (zI (j : Int))), (3, .int (zI (aa : Int))), (2, .int (zI (cc : Int))), (0, .ref (B + 4)), (1, .ref (D.2 200 i9))]) hx hb rdX5_choiceOf_128 hl (by decide) rfl (fun ls hl => ?_)
              refine z_iinc (v := (((aa + 1) : Nat) : Int)) (lv' := [(3, .int (zI (((aa + 1) : Nat) : Int))), (4, .int (zI 0)), (5, .int (zI (j : Int))), (2, .int (zI (cc : Int))), (0, .ref (B + 4)), (1, .ref (D.2 200 i9))]) hx hb rdX5_choiceOf_130 hl (k := 2) rfl (by omega) (by decide) rfl (fun ls hl => ?_)
              refine z_iinc (v := (((j + 1) : Nat) : Int)) (lv' := [(5, .int (zI (((j + 1) : Nat) : Int))), (3, .int (zI (((aa + 1) : Nat) : Int))), (4, .int (zI 0)), (2, .int (zI (cc : Int))), (0, .ref (B + 4)), (1, .ref (D.2 200 i9))]) hx hb rdX5_choiceOf_133 hl (k := 2) rfl (by omega) (by decide) rfl (fun ls hl => ?_)
              refine lv_goto (tgt := 24) hx hb rdX5_choiceOf_136 (by decide) ?_
              exact ih (j + 1) cc (aa + 1) 0 (by omega) (by omega) (by omega) (by omega) (by omega) (srI_n hi9 i5 (by omega) (by omega) (by omega)) (by omega) _ _ ls w (lv_sub hl [0, 2, 1, 3, 4, 5] rfl)
            · refine lv_aload_n hx hb rdX5_choiceOf_106 rfl (lv_at hl 4 rfl) ?_
              refine f_5_0 F w (a := 4) rfl rtb_22 rdX5_choiceOf_107 ?_
              refine lv_iload_n hx hb rdX5_choiceOf_110 rfl (lv_at hl 2 rfl) ?_
              refine x_Vi F w (As := [.int (zI (aa : Int))]) (rest := []) (a := 1) (kd_lt (a := 1) (show kd 1 = (8, 0, 0) from rfl) (by decide)) (sh_8 rfl _ _) rfl (s_X8_signAt hT hTc (z := (aa : Int)) (by omega)) rgv_X5_52 rhv_X8_signAt ⟨(by omega), (by omega)⟩ hl.1 rfl (Nat.le_of_ble_eq_true rfl) ⟨Nat.zero_le _, Nat.zero_le _⟩ rdX5_choiceOf_111 (fun H locs w => ?_)
              have hg9 := sg_rg hT (aa : Int)
              have hh9 := sg_c (T := T) (N := tn) aa
              refine lv_aload_n hx hb rdX5_choiceOf_114 rfl (lv_at hl 5 rfl) ?_
              refine lv_iload hx hb rdX5_choiceOf_115 (lv_at hl 0 rfl) ?_
              refine k_Qi F w (As := [.int (zI (j : Int))]) (rest := [.int (zI (sg T tn (aa : Int)))]) (i := i9) hi9 (t_charAt (i9 := i9) hi9 (j := j) (by omega)) rgv_X5_122 rhv_J0_charAt_5068e ⟨(by omega), (by omega)⟩ hl.1 rfl (Nat.le_of_ble_eq_true rfl) ⟨Nat.zero_le _, Nat.zero_le _⟩ rdX5_choiceOf_117 (fun r M1 H locs hp w => ?_)
              obtain ⟨rfl, hMe⟩ := hp
              rw [hMe] at w
              have hsx10 := slx_b (i := i9) hi9 (j := j) (by omega)
              refine z_icmp_ne (tgt := 127) hx hb (by omega) (by omega) rdX5_choiceOf_120 (by decide) (fun c11 => ?_) (fun c11 => ?_)
              · refine lv_iconst (v := zI 0) hx hb rdX5_choiceOf_127 rfl ?_
                refine lv_istore (lv' := [(4, .int (zI 0)), (5, .int (zI (j : Int))), (3, .int (zI (aa : Int))), (2, .int (zI (cc : Int))), (0, .ref (B + 4)), (1, .ref (D.2 200 i9))]) hx hb rdX5_choiceOf_128 hl (by decide) rfl (fun ls hl => ?_)
                refine z_iinc (v := (((aa + 1) : Nat) : Int)) (lv' := [(3, .int (zI (((aa + 1) : Nat) : Int))), (4, .int (zI 0)), (5, .int (zI (j : Int))), (2, .int (zI (cc : Int))), (0, .ref (B + 4)), (1, .ref (D.2 200 i9))]) hx hb rdX5_choiceOf_130 hl (k := 2) rfl (by omega) (by decide) rfl (fun ls hl => ?_)
                refine z_iinc (v := (((j + 1) : Nat) : Int)) (lv' := [(5, .int (zI (((j + 1) : Nat) : Int))), (3, .int (zI (((aa + 1) : Nat) : Int))), (4, .int (zI 0)), (2, .int (zI (cc : Int))), (0, .ref (B + 4)), (1, .ref (D.2 200 i9))]) hx hb rdX5_choiceOf_133 hl (k := 2) rfl (by omega) (by decide) rfl (fun ls hl => ?_)
                refine lv_goto (tgt := 24) hx hb rdX5_choiceOf_136 (by decide) ?_
                exact ih (j + 1) cc (aa + 1) 0 (by omega) (by omega) (by omega) (by omega) (by omega) (srI_n hi9 i5 (by omega) (by omega) (by omega)) (by omega) _ _ ls w (lv_sub hl [0, 2, 1, 3, 4, 5] rfl)
              · refine lv_iconst (v := zI 1) hx hb rdX5_choiceOf_123 rfl ?_
                refine lv_goto (tgt := 128) hx hb rdX5_choiceOf_124 (by decide) ?_
                refine lv_istore (lv' := [(4, .int (zI 1)), (5, .int (zI (j : Int))), (3, .int (zI (aa : Int))), (2, .int (zI (cc : Int))), (0, .ref (B + 4)), (1, .ref (D.2 200 i9))]) hx hb rdX5_choiceOf_128 hl (by decide) rfl (fun ls hl => ?_)
                refine z_iinc (v := (((aa + 1) : Nat) : Int)) (lv' := [(3, .int (zI (((aa + 1) : Nat) : Int))), (4, .int (zI 1)), (5, .int (zI (j : Int))), (2, .int (zI (cc : Int))), (0, .ref (B + 4)), (1, .ref (D.2 200 i9))]) hx hb rdX5_choiceOf_130 hl (k := 2) rfl (by omega) (by decide) rfl (fun ls hl => ?_)
                refine z_iinc (v := (((j + 1) : Nat) : Int)) (lv' := [(5, .int (zI (((j + 1) : Nat) : Int))), (3, .int (zI (((aa + 1) : Nat) : Int))), (4, .int (zI 1)), (2, .int (zI (cc : Int))), (0, .ref (B + 4)), (1, .ref (D.2 200 i9))]) hx hb rdX5_choiceOf_133 hl (k := 2) rfl (by omega) (by decide) rfl (fun ls hl => ?_)
                refine lv_goto (tgt := 24) hx hb rdX5_choiceOf_136 (by decide) ?_
                exact ih (j + 1) cc (aa + 1) 1 (by omega) (by omega) (by omega) (by omega) (by omega) (srI_y hi9 i5 (by omega) (by omega) (by omega) (by omega) (by omega)) (by omega) _ _ ls w (lv_sub hl [0, 2, 1, 3, 4, 5] rfl)
        · refine lv_iload hx hb rdX5_choiceOf_53 (lv_at hl 1 rfl) ?_
          refine z_if_eq (tgt := 68) hx hb (by omega) rdX5_choiceOf_55 (by decide) (fun c12 => ?_) (fun c12 => ?_)
          · refine z_iinc (v := (((cc + 1) : Nat) : Int)) (lv' := [(2, .int (zI (((cc + 1) : Nat) : Int))), (5, .int (zI (j : Int))), (4, .int (zI (ka : Int))), (3, .int (zI (aa : Int))), (0, .ref (B + 4)), (1, .ref (D.2 200 i9))]) hx hb rdX5_choiceOf_68 hl (k := 3) rfl (by omega) (by decide) rfl (fun ls hl => ?_)
            refine lv_aload_n hx hb rdX5_choiceOf_71 rfl (lv_at hl 4 rfl) ?_
            refine f_5_3 F w (a := 4) rfl rtb_33 rdX5_choiceOf_72 ?_
            refine r_val (v := (zI (((sk T tn b) : Nat) : Int))) (hR.2.1) ?_
            refine lv_istore_n (lv' := [(3, .int (zI (((sk T tn b) : Nat) : Int))), (2, .int (zI (((cc + 1) : Nat) : Int))), (5, .int (zI (j : Int))), (4, .int (zI (ka : Int))), (0, .ref (B + 4)), (1, .ref (D.2 200 i9))]) hx hb rdX5_choiceOf_75 rfl hl (by decide) rfl (fun ls hl => ?_)
            refine lv_aload_n hx hb rdX5_choiceOf_76 rfl (lv_at hl 4 rfl) ?_
            refine f_5_5 F w (a := 4) rfl rtb_34 rdX5_choiceOf_77 ?_
            refine r_val (v := (zI (((jn T tn b) : Nat) : Int))) (hR.2.2.2) ?_
            refine z_if_ne (tgt := 87) hx hb (by omega) rdX5_choiceOf_80 (by decide) (fun c13 => ?_) (fun c13 => ?_)
            · refine lv_iconst (v := zI 0) hx hb rdX5_choiceOf_87 rfl ?_
              refine r_val (v := zI ((k0 : Nat) : Int)) (congrArg zI (by omega)) ?_
              refine lv_istore (lv' := [(4, .int (zI (k0 : Int))), (3, .int (zI (((sk T tn b) : Nat) : Int))), (2, .int (zI (((cc + 1) : Nat) : Int))), (5, .int (zI (j : Int))), (0, .ref (B + 4)), (1, .ref (D.2 200 i9))]) hx hb rdX5_choiceOf_88 hl (by decide) rfl (fun ls hl => ?_)
              refine lv_goto (tgt := 133) hx hb rdX5_choiceOf_90 (by decide) ?_
              refine z_iinc (v := (((j + 1) : Nat) : Int)) (lv' := [(5, .int (zI (((j + 1) : Nat) : Int))), (4, .int (zI (k0 : Int))), (3, .int (zI (((sk T tn b) : Nat) : Int))), (2, .int (zI (((cc + 1) : Nat) : Int))), (0, .ref (B + 4)), (1, .ref (D.2 200 i9))]) hx hb rdX5_choiceOf_133 hl (k := 3) rfl (by omega) (by decide) rfl (fun ls hl => ?_)
              refine lv_goto (tgt := 24) hx hb rdX5_choiceOf_136 (by decide) ?_
              exact ih (j + 1) (cc + 1) (sk T tn b) k0 (by omega) (by omega) (by omega) (by omega) (by omega) (srI_w hi9 i5 (by omega) (by omega) hk0) (by omega) _ _ ls w (lv_sub hl [0, 1, 2, 3, 4, 5] rfl)
            · refine lv_iconst (v := zI 1) hx hb rdX5_choiceOf_83 rfl ?_
              refine lv_goto (tgt := 88) hx hb rdX5_choiceOf_84 (by decide) ?_
              refine r_val (v := zI ((k0 : Nat) : Int)) (congrArg zI (by omega)) ?_
              refine lv_istore (lv' := [(4, .int (zI (k0 : Int))), (3, .int (zI (((sk T tn b) : Nat) : Int))), (2, .int (zI (((cc + 1) : Nat) : Int))), (5, .int (zI (j : Int))), (0, .ref (B + 4)), (1, .ref (D.2 200 i9))]) hx hb rdX5_choiceOf_88 hl (by decide) rfl (fun ls hl => ?_)
              refine lv_goto (tgt := 133) hx hb rdX5_choiceOf_90 (by decide) ?_
              refine z_iinc (v := (((j + 1) : Nat) : Int)) (lv' := [(5, .int (zI (((j + 1) : Nat) : Int))), (4, .int (zI (k0 : Int))), (3, .int (zI (((sk T tn b) : Nat) : Int))), (2, .int (zI (((cc + 1) : Nat) : Int))), (0, .ref (B + 4)), (1, .ref (D.2 200 i9))]) hx hb rdX5_choiceOf_133 hl (k := 3) rfl (by omega) (by decide) rfl (fun ls hl => ?_)
              refine lv_goto (tgt := 24) hx hb rdX5_choiceOf_136 (by decide) ?_
              exact ih (j + 1) (cc + 1) (sk T tn b) k0 (by omega) (by omega) (by omega) (by omega) (by omega) (srI_w hi9 i5 (by omega) (by omega) hk0) (by omega) _ _ ls w (lv_sub hl [0, 1, 2, 3, 4, 5] rfl)
          · refine lv_iload_n hx hb rdX5_choiceOf_58 rfl (lv_at hl 2 rfl) ?_
            refine lv_aload_n hx hb rdX5_choiceOf_59 rfl (lv_at hl 4 rfl) ?_
            refine f_5_4 F w (a := 4) rfl rtb_21 rdX5_choiceOf_60 ?_
            refine r_val (v := (zI (((en T tn b) : Nat) : Int))) (hR.2.2.1) ?_
            refine z_icmp_ne (tgt := 68) hx hb (by omega) (by omega) rdX5_choiceOf_63 (by decide) (fun c14 => ?_) (fun c14 => ?_)
            · refine z_iinc (v := (((cc + 1) : Nat) : Int)) (lv' := [(2, .int (zI (((cc + 1) : Nat) : Int))), (5, .int (zI (j : Int))), (4, .int (zI (ka : Int))), (3, .int (zI (aa : Int))), (0, .ref (B + 4)), (1, .ref (D.2 200 i9))]) hx hb rdX5_choiceOf_68 hl (k := 3) rfl (by omega) (by decide) rfl (fun ls hl => ?_)
              refine lv_aload_n hx hb rdX5_choiceOf_71 rfl (lv_at hl 4 rfl) ?_
              refine f_5_3 F w (a := 4) rfl rtb_33 rdX5_choiceOf_72 ?_
              refine r_val (v := (zI (((sk T tn b) : Nat) : Int))) (hR.2.1) ?_
              refine lv_istore_n (lv' := [(3, .int (zI (((sk T tn b) : Nat) : Int))), (2, .int (zI (((cc + 1) : Nat) : Int))), (5, .int (zI (j : Int))), (4, .int (zI (ka : Int))), (0, .ref (B + 4)), (1, .ref (D.2 200 i9))]) hx hb rdX5_choiceOf_75 rfl hl (by decide) rfl (fun ls hl => ?_)
              refine lv_aload_n hx hb rdX5_choiceOf_76 rfl (lv_at hl 4 rfl) ?_
              refine f_5_5 F w (a := 4) rfl rtb_34 rdX5_choiceOf_77 ?_
              refine r_val (v := (zI (((jn T tn b) : Nat) : Int))) (hR.2.2.2) ?_
              refine z_if_ne (tgt := 87) hx hb (by omega) rdX5_choiceOf_80 (by decide) (fun c15 => ?_) (fun c15 => ?_)
              · refine lv_iconst (v := zI 0) hx hb rdX5_choiceOf_87 rfl ?_
                refine r_val (v := zI ((k0 : Nat) : Int)) (congrArg zI (by omega)) ?_
                refine lv_istore (lv' := [(4, .int (zI (k0 : Int))), (3, .int (zI (((sk T tn b) : Nat) : Int))), (2, .int (zI (((cc + 1) : Nat) : Int))), (5, .int (zI (j : Int))), (0, .ref (B + 4)), (1, .ref (D.2 200 i9))]) hx hb rdX5_choiceOf_88 hl (by decide) rfl (fun ls hl => ?_)
                refine lv_goto (tgt := 133) hx hb rdX5_choiceOf_90 (by decide) ?_
                refine z_iinc (v := (((j + 1) : Nat) : Int)) (lv' := [(5, .int (zI (((j + 1) : Nat) : Int))), (4, .int (zI (k0 : Int))), (3, .int (zI (((sk T tn b) : Nat) : Int))), (2, .int (zI (((cc + 1) : Nat) : Int))), (0, .ref (B + 4)), (1, .ref (D.2 200 i9))]) hx hb rdX5_choiceOf_133 hl (k := 3) rfl (by omega) (by decide) rfl (fun ls hl => ?_)
                refine lv_goto (tgt := 24) hx hb rdX5_choiceOf_136 (by decide) ?_
                exact ih (j + 1) (cc + 1) (sk T tn b) k0 (by omega) (by omega) (by omega) (by omega) (by omega) (srI_w hi9 i5 (by omega) (by omega) hk0) (by omega) _ _ ls w (lv_sub hl [0, 1, 2, 3, 4, 5] rfl)
              · refine lv_iconst (v := zI 1) hx hb rdX5_choiceOf_83 rfl ?_
                refine lv_goto (tgt := 88) hx hb rdX5_choiceOf_84 (by decide) ?_
                refine r_val (v := zI ((k0 : Nat) : Int)) (congrArg zI (by omega)) ?_
                refine lv_istore (lv' := [(4, .int (zI (k0 : Int))), (3, .int (zI (((sk T tn b) : Nat) : Int))), (2, .int (zI (((cc + 1) : Nat) : Int))), (5, .int (zI (j : Int))), (0, .ref (B + 4)), (1, .ref (D.2 200 i9))]) hx hb rdX5_choiceOf_88 hl (by decide) rfl (fun ls hl => ?_)
                refine lv_goto (tgt := 133) hx hb rdX5_choiceOf_90 (by decide) ?_
                refine z_iinc (v := (((j + 1) : Nat) : Int)) (lv' := [(5, .int (zI (((j + 1) : Nat) : Int))), (4, .int (zI (k0 : Int))), (3, .int (zI (((sk T tn b) : Nat) : Int))), (2, .int (zI (((cc + 1) : Nat) : Int))), (0, .ref (B + 4)), (1, .ref (D.2 200 i9))]) hx hb rdX5_choiceOf_133 hl (k := 3) rfl (by omega) (by decide) rfl (fun ls hl => ?_)
                refine lv_goto (tgt := 24) hx hb rdX5_choiceOf_136 (by decide) ?_
                exact ih (j + 1) (cc + 1) (sk T tn b) k0 (by omega) (by omega) (by omega) (by omega) (by omega) (srI_w hi9 i5 (by omega) (by omega) hk0) (by omega) _ _ ls w (lv_sub hl [0, 1, 2, 3, 4, 5] rfl)
            · refine lv_iload_n hx hb rdX5_choiceOf_66 rfl (lv_at hl 3 rfl) ?_
              exact e_i F w hr hlocks ⟨congrArg zI (fnd_s hR.1 hi9 h0 (srI_r hi9 i5 (by omega) (by omega) (by omega))), rfl⟩ rdX5_choiceOf_67
theorem rdX5_choiceOf_0 : decode cX5_choiceOf 0 = .ok (.iconst 0, 1) := dq0 kk_3 (by decide +kernel)
theorem rdX5_choiceOf_1 : decode cX5_choiceOf 1 = .ok (.istore_n 2, 1) := dq0 kk_61 (by decide +kernel)
theorem rdX5_choiceOf_2 : decode cX5_choiceOf 2 = .ok (.aload_n 0, 1) := dq0 kk_42 (by decide +kernel)
theorem rdX5_choiceOf_3 : decode cX5_choiceOf 3 = .ok (.getfield 21, 3) := dqV kk_180 (by decide +kernel)
theorem rdX5_choiceOf_6 : decode cX5_choiceOf 6 = .ok (.istore_n 3, 1) := dq0 kk_62 (by decide +kernel)
theorem rdX5_choiceOf_7 : decode cX5_choiceOf 7 = .ok (.aload_n 0, 1) := dq0 kk_42 (by decide +kernel)
theorem rdX5_choiceOf_8 : decode cX5_choiceOf 8 = .ok (.getfield 27, 3) := dqV kk_180 (by decide +kernel)
theorem rdX5_choiceOf_11 : decode cX5_choiceOf 11 = .ok (.ifCond .ne 7, 3) := dqT kk_154 (by decide +kernel)
theorem rdX5_choiceOf_18 : decode cX5_choiceOf 18 = .ok (.iconst 0, 1) := dq0 kk_3 (by decide +kernel)
theorem rdX5_choiceOf_19 : decode cX5_choiceOf 19 = .ok (.istore 4, 2) := dqU kk_54 (by decide +kernel)
theorem rdX5_choiceOf_21 : decode cX5_choiceOf 21 = .ok (.iconst 0, 1) := dq0 kk_3 (by decide +kernel)
theorem rdX5_choiceOf_22 : decode cX5_choiceOf 22 = .ok (.istore 5, 2) := dqU kk_54 (by decide +kernel)
theorem rdX5_choiceOf_139 : decode cX5_choiceOf 139 = .ok (.iconst (-1), 1) := dq0 kk_2 (by decide +kernel)
theorem rdX5_choiceOf_140 : decode cX5_choiceOf 140 = .ok (.ireturn, 1) := dq0 kk_172 (by decide +kernel)
theorem rdX5_choiceOf_14 : decode cX5_choiceOf 14 = .ok (.iconst 1, 1) := dq0 kk_4 (by decide +kernel)
theorem rdX5_choiceOf_15 : decode cX5_choiceOf 15 = .ok (.goto 4, 3) := dqT kk_167 (by decide +kernel)
set_option maxRecDepth 4000 in
theorem s_X5_choiceOf {l : Launch} {D : va_G} {B : Nat} {cy : Nat → ClassId} {M : Mem} {T : Nat → Nat} {tn : Nat} (hT : okT T tn) (hTc : isTc M T tn) {b : Nat} (hR : RS M T tn b) {i9 : Nat} (hi9 : i9 < NSL) (h0 : 0 < i9) : Ci l D B cy yX5_choiceOf cX5_choiceOf 6 (some .int) 4 85 [.ref (B + 4), .ref (D.2 200 i9)] M (fun r M1 => r = zI (tk T tn b (slLo i9) (slHi i9)) ∧ M1 = M) := by
  refine s_any (by decide) (Nat.le_of_ble_eq_true rfl) ?_
  intro p e s m below meth c ls F hr hlocks w hl
  have F : CallFix p m c cX5_choiceOf 6 s _ TB RX5 := F
  have hx := F.1
  have hb := F.2.1
  have hl : lv_has ls 6 [(0, .ref (B + 4)), (1, .ref (D.2 200 i9))] := hl
  have hN := hT.1
  have hb9 := hR.1
  have hskb := sk_le (T := T) hR.1
  have henb := en_le (T := T) hR.1
  have hjn := jn_01 T tn b
  have hsn := sl_len hi9
  obtain ⟨k0, hk0⟩ : ∃ k0 : Nat, k0 = 1 - jn T tn b := ⟨_, rfl⟩
  refine lv_iconst (v := zI 0) hx hb rdX5_choiceOf_0 rfl ?_
  refine lv_istore_n (lv' := [(2, .int (zI 0)), (0, .ref (B + 4)), (1, .ref (D.2 200 i9))]) hx hb rdX5_choiceOf_1 rfl hl (by decide) rfl (fun ls hl => ?_)
  refine lv_aload_n hx hb rdX5_choiceOf_2 rfl (lv_at hl 1 rfl) ?_
  refine f_5_3 F w (a := 4) rfl rtb_33 rdX5_choiceOf_3 ?_
  refine r_val (v := (zI (((sk T tn b) : Nat) : Int))) (hR.2.1) ?_
  refine lv_istore_n (lv' := [(3, .int (zI (((sk T tn b) : Nat) : Int))), (2, .int (zI 0)), (0, .ref (B + 4)), (1, .ref (D.2 200 i9))]) hx hb rdX5_choiceOf_6 rfl hl (by decide) rfl (fun ls hl => ?_)
  refine lv_aload_n hx hb rdX5_choiceOf_7 rfl (lv_at hl 2 rfl) ?_
  refine f_5_5 F w (a := 4) rfl rtb_34 rdX5_choiceOf_8 ?_
  refine r_val (v := (zI (((jn T tn b) : Nat) : Int))) (hR.2.2.2) ?_
  refine z_if_ne (tgt := 18) hx hb (by omega) rdX5_choiceOf_11 (by decide) (fun c1 => ?_) (fun c1 => ?_)
  · refine lv_iconst (v := zI 0) hx hb rdX5_choiceOf_18 rfl ?_
    refine r_val (v := zI ((k0 : Nat) : Int)) (congrArg zI (by omega)) ?_
    refine lv_istore (lv' := [(4, .int (zI (k0 : Int))), (3, .int (zI (((sk T tn b) : Nat) : Int))), (2, .int (zI 0)), (0, .ref (B + 4)), (1, .ref (D.2 200 i9))]) hx hb rdX5_choiceOf_19 hl (by decide) rfl (fun ls hl => ?_)
    refine lv_iconst (v := zI 0) hx hb rdX5_choiceOf_21 rfl ?_
    refine lv_istore (lv' := [(5, .int (zI 0)), (4, .int (zI (k0 : Int))), (3, .int (zI (((sk T tn b) : Nat) : Int))), (2, .int (zI 0)), (0, .ref (B + 4)), (1, .ref (D.2 200 i9))]) hx hb rdX5_choiceOf_22 hl (by decide) rfl (fun ls hl => ?_)
    refine lp_X5_choiceOf  F hr hlocks (Nat.le_of_ble_eq_true rfl) (Nat.le_of_ble_eq_true rfl) hT hTc hR hi9 h0 hk0 (fun j cc aa ka H locs ls x0 x1 w hl => ?_) 60 0 0 (sk T tn b) k0 (by omega) (by omega) (by omega) (by omega) (by omega) (srI_0 hk0) (by omega) _ _ ls w (lv_sub hl [0, 1, 2, 3, 4, 5] rfl)
    refine lv_iconst (v := zI (-1)) hx hb rdX5_choiceOf_139 rfl ?_
    exact e_i F w hr hlocks ⟨congrArg zI (fnd_n hR.1 hi9 h0 (srI_e x0 x1)), rfl⟩ rdX5_choiceOf_140
  · refine lv_iconst (v := zI 1) hx hb rdX5_choiceOf_14 rfl ?_
    refine lv_goto (tgt := 19) hx hb rdX5_choiceOf_15 (by decide) ?_
    refine r_val (v := zI ((k0 : Nat) : Int)) (congrArg zI (by omega)) ?_
    refine lv_istore (lv' := [(4, .int (zI (k0 : Int))), (3, .int (zI (((sk T tn b) : Nat) : Int))), (2, .int (zI 0)), (0, .ref (B + 4)), (1, .ref (D.2 200 i9))]) hx hb rdX5_choiceOf_19 hl (by decide) rfl (fun ls hl => ?_)
    refine lv_iconst (v := zI 0) hx hb rdX5_choiceOf_21 rfl ?_
    refine lv_istore (lv' := [(5, .int (zI 0)), (4, .int (zI (k0 : Int))), (3, .int (zI (((sk T tn b) : Nat) : Int))), (2, .int (zI 0)), (0, .ref (B + 4)), (1, .ref (D.2 200 i9))]) hx hb rdX5_choiceOf_22 hl (by decide) rfl (fun ls hl => ?_)
    refine lp_X5_choiceOf  F hr hlocks (Nat.le_of_ble_eq_true rfl) (Nat.le_of_ble_eq_true rfl) hT hTc hR hi9 h0 hk0 (fun j cc aa ka H locs ls x0 x1 w hl => ?_) 60 0 0 (sk T tn b) k0 (by omega) (by omega) (by omega) (by omega) (by omega) (srI_0 hk0) (by omega) _ _ ls w (lv_sub hl [0, 1, 2, 3, 4, 5] rfl)
    refine lv_iconst (v := zI (-1)) hx hb rdX5_choiceOf_139 rfl ?_
    exact e_i F w hr hlocks ⟨congrArg zI (fnd_n hR.1 hi9 h0 (srI_e x0 x1)), rfl⟩ rdX5_choiceOf_140
theorem rdX5_readWord_0 : decode cX5_readWord 0 = .ok (.aload_n 0, 1) := dq0 kk_42 (by decide +kernel)
theorem rdX5_readWord_1 : decode cX5_readWord 1 = .ok (.aload_n 1, 1) := dq0 kk_43 (by decide +kernel)
theorem rdX5_readWord_2 : decode cX5_readWord 2 = .ok (.invokevirtual 112, 3) := dqV kk_182 (by decide +kernel)
theorem rtk_X5_choiceOf : Cond.code yX5_choiceOf cX5_choiceOf 6 (some .int) ∈ TB := tbm (tc3 (List.mem_of_getElem? (i := 72) rfl)) rfl
theorem rgc_X5_choiceOf : GoodIn TB (cw yX5_choiceOf cX5_choiceOf 6 (some .int)) := goodIn_c2 rtk_X5_choiceOf
theorem rtb_44 : Cond.methodLink "ToneLines$RuleReader" 112 yX5_choiceOf ∈ TB := tbm (tc3 (List.mem_of_getElem? (i := 69) rfl)) rfl
theorem rtb_45 : Cond.instanceMethod yX5_choiceOf ∈ TB := tbm (tc3 (List.mem_of_getElem? (i := 71) rfl)) rfl
theorem rtb_46 : Cond.selects "ToneLines$RuleReader" yX5_choiceOf yX5_choiceOf ∈ TB := tbp (List.mem_of_getElem? (i := 9) rfl) rfl
theorem rgv_X5_112 : GoodIn TB (wsV RX5 112 RX5 yX5_choiceOf (cw yX5_choiceOf cX5_choiceOf 6 (some .int))) := goodIn_4 rtb_44 rtb_45 rtb_46 rtb_37 rgc_X5_choiceOf
theorem rhv_X5_choiceOf : yX5_choiceOf.cls = RX5 ∧ yX5_choiceOf.cls ≠ "java/lang/invoke/MethodHandle" ∧ yX5_choiceOf.cls ≠ "java/lang/invoke/VarHandle" ∧ (parseMethodDescriptor yX5_choiceOf.desc).map (fun d => d.parameters.length) = some 1 := by decide +kernel
theorem rdX5_readWord_5 : decode cX5_readWord 5 = .ok (.ifCond .eq 5, 3) := dqT kk_153 (by decide +kernel)
theorem rdX5_readWord_10 : decode cX5_readWord 10 = .ok (.aload_n 0, 1) := dq0 kk_42 (by decide +kernel)
theorem rdX5_readWord_11 : decode cX5_readWord 11 = .ok (.invokevirtual 36, 3) := dqV kk_182 (by decide +kernel)
theorem rtk_X5_step : Cond.code yX5_step cX5_step 2 none ∈ TB := tbm (tc3 (List.mem_of_getElem? (i := 44) rfl)) rfl
theorem rgc_X5_step : GoodIn TB (cw yX5_step cX5_step 2 none) := goodIn_c2 rtk_X5_step
theorem rtb_47 : Cond.methodLink "ToneLines$RuleReader" 36 yX5_step ∈ TB := tbm (tc3 (List.mem_of_getElem? (i := 41) rfl)) rfl
theorem rtb_48 : Cond.instanceMethod yX5_step ∈ TB := tbm (tc3 (List.mem_of_getElem? (i := 43) rfl)) rfl
theorem rtb_49 : Cond.selects "ToneLines$RuleReader" yX5_step yX5_step ∈ TB := tbp (List.mem_of_getElem? (i := 6) rfl) rfl
theorem rgv_X5_36 : GoodIn TB (wsV RX5 36 RX5 yX5_step (cw yX5_step cX5_step 2 none)) := goodIn_4 rtb_47 rtb_48 rtb_49 rtb_37 rgc_X5_step
theorem rhv_X5_step : yX5_step.cls = RX5 ∧ yX5_step.cls ≠ "java/lang/invoke/MethodHandle" ∧ yX5_step.cls ≠ "java/lang/invoke/VarHandle" ∧ (parseMethodDescriptor yX5_step.desc).map (fun d => d.parameters.length) = some 0 := by decide +kernel
theorem rdX5_readWord_14 : decode cX5_readWord 14 = .ok (.iconst 1, 1) := dq0 kk_4 (by decide +kernel)
theorem rdX5_readWord_15 : decode cX5_readWord 15 = .ok (.ireturn, 1) := dq0 kk_172 (by decide +kernel)
theorem rdX5_readWord_8 : decode cX5_readWord 8 = .ok (.iconst 0, 1) := dq0 kk_3 (by decide +kernel)
theorem rdX5_readWord_9 : decode cX5_readWord 9 = .ok (.ireturn, 1) := dq0 kk_172 (by decide +kernel)
set_option maxRecDepth 4000 in
theorem s_X5_readWord {l : Launch} {D : va_G} {B : Nat} {cy : Nat → ClassId} {M : Mem} {T : Nat → Nat} {tn : Nat} (hT : okT T tn) (hTc : isTc M T tn) {x : Nat × Nat × (Nat → Int)} (hx1 : x.1 = 1) (hR : RS M T tn x.2.1) {i9 : Nat} (hi9 : i9 < NSL) (h0 : 0 < i9) : Ci l D B cy yX5_readWord cX5_readWord 2 (some .boolean) 5 110 [.ref (B + 4), .ref (D.2 200 i9)] M (fun r M1 => (tk T tn x.2.1 (slLo i9) (slHi i9) = 0 ∧ r = zI 1 ∧ RS M1 T tn (en T tn x.2.1) ∧ FrQ M1 M) ∨ (tk T tn x.2.1 (slLo i9) (slHi i9) ≠ 0 ∧ r = zI 0 ∧ M1 = M)) := by
  refine s_any (by decide) (Nat.le_of_ble_eq_true rfl) ?_
  intro p e s m below meth c ls F hr hlocks w hl
  have F : CallFix p m c cX5_readWord 2 s _ TB RX5 := F
  have hx := F.1
  have hb := F.2.1
  have hl : lv_has ls 2 [(0, .ref (B + 4)), (1, .ref (D.2 200 i9))] := hl
  have hN := hT.1
  have hb9 := hR.1
  have hskb := sk_le (T := T) hR.1
  have henb := en_le (T := T) hR.1
  have hjn := jn_01 T tn x.2.1
  refine lv_aload_n hx hb rdX5_readWord_0 rfl (lv_at hl 0 rfl) ?_
  refine lv_aload_n hx hb rdX5_readWord_1 rfl (lv_at hl 1 rfl) ?_
  refine x_Vi F w (As := [.ref (D.2 200 i9)]) (rest := []) (a := 4) (kd_lt (a := 4) (show kd 4 = (5, 0, 0) from rfl) (by decide)) (sh_5 rfl _ _) rfl (s_X5_choiceOf hT hTc hR (i9 := i9) hi9 h0) rgv_X5_112 rhv_X5_choiceOf ⟨(Nat.le_of_ble_eq_true rfl), (Nat.le_of_ble_eq_true rfl)⟩ hl.1 rfl (Nat.le_of_ble_eq_true rfl) ⟨Nat.zero_le _, Nat.zero_le _⟩ rdX5_readWord_2 (fun H locs w => ?_)
  have ht0 := tk_rg T tn x.2.1 (slLo i9) (slHi i9)
  refine z_if_eq (tgt := 10) hx hb (by omega) rdX5_readWord_5 (by decide) (fun c2 => ?_) (fun c2 => ?_)
  · refine lv_aload_n hx hb rdX5_readWord_10 rfl (lv_at hl 0 rfl) ?_
    refine k_Vv F w (As := []) (rest := []) (a := 4) (kd_lt (a := 4) (show kd 4 = (5, 0, 0) from rfl) (by decide)) (sh_5 rfl _ _) rfl (s_X5_step hT hTc (E := en T tn x.2.1) (en_le hR.1).2.1 hR.2.2.1) rgv_X5_36 rhv_X5_step ⟨(Nat.le_of_ble_eq_true rfl), (Nat.le_of_ble_eq_true rfl)⟩ hl.1 rfl (Nat.le_of_ble_eq_true rfl) ⟨Nat.zero_le _, Nat.zero_le _⟩ rdX5_readWord_11 (fun Ma4 H locs hp w => ?_)
    obtain ⟨hRy3, hQy3⟩ := hp
    have hCy3 := isTc.q hTc hQy3
    refine lv_iconst (v := zI 1) hx hb rdX5_readWord_14 rfl ?_
    exact e_z F w hr hlocks (nar_z (by omega)) (Or.inl ⟨by omega, rfl, hRy3, hQy3⟩) rdX5_readWord_15
  · refine lv_iconst (v := zI 0) hx hb rdX5_readWord_8 rfl ?_
    exact e_z F w hr hlocks (nar_z (by omega)) (Or.inr ⟨by omega, rfl, rfl⟩) rdX5_readWord_9
theorem rdX5_readChoice_0 : decode cX5_readChoice 0 = .ok (.aload_n 0, 1) := dq0 kk_42 (by decide +kernel)
theorem rdX5_readChoice_1 : decode cX5_readChoice 1 = .ok (.aload_n 3, 1) := dq0 kk_45 (by decide +kernel)
theorem rdX5_readChoice_2 : decode cX5_readChoice 2 = .ok (.invokevirtual 112, 3) := dqV kk_182 (by decide +kernel)
theorem rdX5_readChoice_5 : decode cX5_readChoice 5 = .ok (.istore 4, 2) := dqU kk_54 (by decide +kernel)
theorem rdX5_readChoice_7 : decode cX5_readChoice 7 = .ok (.iload 4, 2) := dqU kk_21 (by decide +kernel)
theorem rdX5_readChoice_9 : decode cX5_readChoice 9 = .ok (.iconst (-1), 1) := dq0 kk_2 (by decide +kernel)
theorem rdX5_readChoice_10 : decode cX5_readChoice 10 = .ok (.if_icmp .eq 13, 3) := dqT kk_159 (by decide +kernel)
theorem rdX5_readChoice_23 : decode cX5_readChoice 23 = .ok (.iconst 0, 1) := dq0 kk_3 (by decide +kernel)
theorem rdX5_readChoice_24 : decode cX5_readChoice 24 = .ok (.ireturn, 1) := dq0 kk_172 (by decide +kernel)
theorem rdX5_readChoice_13 : decode cX5_readChoice 13 = .ok (.iload_n 2, 1) := dq0 kk_28 (by decide +kernel)
theorem rdX5_readChoice_14 : decode cX5_readChoice 14 = .ok (.ifCond .lt 9, 3) := dqT kk_155 (by decide +kernel)
theorem rdX5_readChoice_17 : decode cX5_readChoice 17 = .ok (.iload_n 2, 1) := dq0 kk_28 (by decide +kernel)
theorem rdX5_readChoice_18 : decode cX5_readChoice 18 = .ok (.bipush 8, 2) := dqS kk_16 (by decide +kernel)
theorem rdX5_readChoice_20 : decode cX5_readChoice 20 = .ok (.if_icmp .lt 5, 3) := dqT kk_161 (by decide +kernel)
theorem rdX5_readChoice_25 : decode cX5_readChoice 25 = .ok (.aload_n 1, 1) := dq0 kk_43 (by decide +kernel)
theorem rdX5_readChoice_26 : decode cX5_readChoice 26 = .ok (.getfield 71, 3) := dqV kk_180 (by decide +kernel)
theorem rtb_50 : Cond.fieldLink "ToneLines$RuleReader" 71 "ToneLines$Rule" "parts" "[I" ∈ TB := tbm (tc1 (List.mem_of_getElem? (i := 76) rfl)) rfl
theorem rdX5_readChoice_29 : decode cX5_readChoice 29 = .ok (.iload_n 2, 1) := dq0 kk_28 (by decide +kernel)
theorem rdX5_readChoice_30 : decode cX5_readChoice 30 = .ok (.iload 4, 2) := dqU kk_21 (by decide +kernel)
theorem rdX5_readChoice_32 : decode cX5_readChoice 32 = .ok (.iastore, 1) := dq0 kk_79 (by decide +kernel)
theorem rdX5_readChoice_33 : decode cX5_readChoice 33 = .ok (.aload_n 0, 1) := dq0 kk_42 (by decide +kernel)
theorem rdX5_readChoice_34 : decode cX5_readChoice 34 = .ok (.invokevirtual 36, 3) := dqV kk_182 (by decide +kernel)
theorem rdX5_readChoice_37 : decode cX5_readChoice 37 = .ok (.iconst 1, 1) := dq0 kk_4 (by decide +kernel)
theorem rdX5_readChoice_38 : decode cX5_readChoice 38 = .ok (.ireturn, 1) := dq0 kk_172 (by decide +kernel)
set_option maxRecDepth 4000 in
theorem s_X5_readChoice {l : Launch} {D : va_G} {B : Nat} {cy : Nat → ClassId} {M : Mem} {T : Nat → Nat} {tn : Nat} (hT : okT T tn) (hTc : isTc M T tn) {x : Nat × Nat × (Nat → Int)} (hx1 : x.1 = 1) (hR : RS M T tn x.2.1) {ru : Nat} (hku : kd ru = (4, 0, 0)) (hU : isU M ru x.2.2) {k : Nat} (hk8 : k < 8) {i9 : Nat} (hi9 : i9 < NSL) (h0 : 0 < i9) : Ci l D B cy yX5_readChoice cX5_readChoice 5 (some .boolean) 5 110 [.ref (B + 4), .ref (B + ru), .int (zI (k : Int)), .ref (D.2 200 i9)] M (fun r M1 => XQ T tn M ru (rdC T tn (slLo i9) (slHi i9) k x) r M1) := by
  refine s_any (by decide) (Nat.le_of_ble_eq_true rfl) ?_
  intro p e s m below meth c ls F hr hlocks w hl
  have F : CallFix p m c cX5_readChoice 5 s _ TB RX5 := F
  have hx := F.1
  have hb := F.2.1
  have hl : lv_has ls 5 [(0, .ref (B + 4)), (1, .ref (B + ru)), (2, .int (zI (k : Int))), (3, .ref (D.2 200 i9))] := hl
  have hN := hT.1
  have hb9 := hR.1
  have hskb := sk_le (T := T) hR.1
  have henb := en_le (T := T) hR.1
  have hjn := jn_01 T tn x.2.1
  have hru := ru_6 hku
  refine lv_aload_n hx hb rdX5_readChoice_0 rfl (lv_at hl 0 rfl) ?_
  refine lv_aload_n hx hb rdX5_readChoice_1 rfl (lv_at hl 3 rfl) ?_
  refine x_Vi F w (As := [.ref (D.2 200 i9)]) (rest := []) (a := 4) (kd_lt (a := 4) (show kd 4 = (5, 0, 0) from rfl) (by decide)) (sh_5 rfl _ _) rfl (s_X5_choiceOf hT hTc hR (i9 := i9) hi9 h0) rgv_X5_112 rhv_X5_choiceOf ⟨(Nat.le_of_ble_eq_true rfl), (Nat.le_of_ble_eq_true rfl)⟩ hl.1 rfl (Nat.le_of_ble_eq_true rfl) ⟨Nat.zero_le _, Nat.zero_le _⟩ rdX5_readChoice_2 (fun H locs w => ?_)
  have ht0 := tk_rg T tn x.2.1 (slLo i9) (slHi i9)
  refine lv_istore (lv' := [(4, .int (zI (tk T tn x.2.1 (slLo i9) (slHi i9)))), (0, .ref (B + 4)), (1, .ref (B + ru)), (2, .int (zI (k : Int))), (3, .ref (D.2 200 i9))]) hx hb rdX5_readChoice_5 hl (by decide) rfl (fun ls hl => ?_)
  refine lv_iload hx hb rdX5_readChoice_7 (lv_at hl 0 rfl) ?_
  refine lv_iconst (v := zI (-1)) hx hb rdX5_readChoice_9 rfl ?_
  refine z_icmp_eq (tgt := 23) hx hb (by omega) (by omega) rdX5_readChoice_10 (by decide) (fun c2 => ?_) (fun c2 => ?_)
  · refine lv_iconst (v := zI 0) hx hb rdX5_readChoice_23 rfl ?_
    exact e_z F w hr hlocks (nar_z (by omega)) (XQ.mk0 (rdC_n hx1 (by omega)) hR hU FrU.rf) rdX5_readChoice_24
  · refine lv_iload_n hx hb rdX5_readChoice_13 rfl (lv_at hl 3 rfl) ?_
    refine z_if_lt (tgt := 23) hx hb (by omega) rdX5_readChoice_14 (by decide) (fun c3 => ?_) (fun c3 => ?_)
    · refine lv_iconst (v := zI 0) hx hb rdX5_readChoice_23 rfl ?_
      exact e_z F w hr hlocks (nar_z (by omega)) (XQ.mk0 (rdC_n hx1 (by omega)) hR hU FrU.rf) rdX5_readChoice_24
    · refine lv_iload_n hx hb rdX5_readChoice_17 rfl (lv_at hl 3 rfl) ?_
      refine lv_bipush (v := zI 8) hx hb rdX5_readChoice_18 (by decide) ?_
      refine z_icmp_lt (tgt := 25) hx hb (by omega) (by omega) rdX5_readChoice_20 (by decide) (fun c4 => ?_) (fun c4 => ?_)
      · refine lv_aload_n hx hb rdX5_readChoice_25 rfl (lv_at hl 2 rfl) ?_
        refine f_4_0 F w (a := ru) hku rtb_50 rdX5_readChoice_26 ?_
        refine lv_iload_n hx hb rdX5_readChoice_29 rfl (lv_at hl 3 rfl) ?_
        refine lv_iload hx hb rdX5_readChoice_30 (lv_at hl 0 rfl) ?_
        refine g_iast F w (a := (ru + 1)) (kd_r1 hku) (j := k) (ix_n (by omega)) (by omega) rdX5_readChoice_32 (fun H locs w => ?_)
        refine lv_aload_n hx hb rdX5_readChoice_33 rfl (lv_at hl 1 rfl) ?_
        have Uq5 : isU (st M (ru + 1) k (zI (tk T tn x.2.1 (slLo i9) (slHi i9)))) ru (updI x.2.2 k (tk T tn x.2.1 (slLo i9) (slHi i9))) := isU.to hU
        have Rq5 : RS (st M (ru + 1) k (zI (tk T tn x.2.1 (slLo i9) (slHi i9)))) T tn x.2.1 := RS.fr hR (st_o (by omega))
        have Cq5 : isTc (st M (ru + 1) k (zI (tk T tn x.2.1 (slLo i9) (slHi i9)))) T tn := isTc.o hTc (by omega) (by omega)
        have Fq5 : FrU (st M (ru + 1) k (zI (tk T tn x.2.1 (slLo i9) (slHi i9)))) M ru := FrU.to FrU.rf (by omega)
        refine k_Vv F w (As := []) (rest := []) (a := 4) (kd_lt (a := 4) (show kd 4 = (5, 0, 0) from rfl) (by decide)) (sh_5 rfl _ _) rfl (s_X5_step hT Cq5 (E := en T tn x.2.1) (en_le Rq5.1).2.1 Rq5.2.2.1) rgv_X5_36 rhv_X5_step ⟨(Nat.le_of_ble_eq_true rfl), (Nat.le_of_ble_eq_true rfl)⟩ hl.1 rfl (Nat.le_of_ble_eq_true rfl) ⟨Nat.zero_le _, Nat.zero_le _⟩ rdX5_readChoice_34 (fun Ma7 H locs hp w => ?_)
        obtain ⟨hRy6, hQy6⟩ := hp
        have hCy6 := isTc.q Cq5 hQy6
        have hFy6 : FrU Ma7 M ru := FrU.tr Fq5 (FrU.q hQy6)
        have hUy6 := isU.fr Uq5 (hQy6.1 (ru + 1) (by omega))
        refine lv_iconst (v := zI 1) hx hb rdX5_readChoice_37 rfl ?_
        exact e_z F w hr hlocks (nar_z (by omega)) (XQ.mk1 (rdC_y hx1 (by omega)) hRy6 hUy6 hFy6) rdX5_readChoice_38
      · refine lv_iconst (v := zI 0) hx hb rdX5_readChoice_23 rfl ?_
        exact e_z F w hr hlocks (nar_z (by omega)) (XQ.mk0 (rdC_n hx1 (by omega)) hR hU FrU.rf) rdX5_readChoice_24
theorem rdX5_readTimes_0 : decode cX5_readTimes 0 = .ok (.aload_n 0, 1) := dq0 kk_42 (by decide +kernel)
theorem rdX5_readTimes_1 : decode cX5_readTimes 1 = .ok (.getfield 31, 3) := dqV kk_180 (by decide +kernel)
theorem rdX5_readTimes_4 : decode cX5_readTimes 4 = .ok (.aload_n 0, 1) := dq0 kk_42 (by decide +kernel)
theorem rdX5_readTimes_5 : decode cX5_readTimes 5 = .ok (.getfield 21, 3) := dqV kk_180 (by decide +kernel)
theorem rdX5_readTimes_8 : decode cX5_readTimes 8 = .ok (.invokevirtual 52, 3) := dqV kk_182 (by decide +kernel)
theorem rdX5_readTimes_11 : decode cX5_readTimes 11 = .ok (.invokestatic 109, 3) := dqV kk_184 (by decide +kernel)
theorem rtk_X11_digitOf : Cond.code yX11_digitOf cX11_digitOf 1 (some .int) ∈ TB := tbm (tc2 (List.mem_of_getElem? (i := 237) rfl)) rfl
theorem rgc_X11_digitOf : GoodIn TB (cw yX11_digitOf cX11_digitOf 1 (some .int)) := goodIn_c2 rtk_X11_digitOf
theorem rhs_X11_digitOf : yX11_digitOf.cls ≠ "java/lang/invoke/MethodHandle" ∧ yX11_digitOf.cls ≠ "java/lang/invoke/VarHandle" ∧ (parseMethodDescriptor yX11_digitOf.desc).map (fun d => d.parameters.length) = some 1 := by decide +kernel
theorem rtb_51 : Cond.static yX11_digitOf ∈ TB := tbm (tc2 (List.mem_of_getElem? (i := 236) rfl)) rfl
theorem rdX5_readTimes_14 : decode cX5_readTimes 14 = .ok (.istore_n 2, 1) := dq0 kk_61 (by decide +kernel)
theorem rdX5_readTimes_15 : decode cX5_readTimes 15 = .ok (.aload_n 0, 1) := dq0 kk_42 (by decide +kernel)
theorem rdX5_readTimes_16 : decode cX5_readTimes 16 = .ok (.getfield 27, 3) := dqV kk_180 (by decide +kernel)
theorem rdX5_readTimes_19 : decode cX5_readTimes 19 = .ok (.ifCond .ne 8, 3) := dqT kk_154 (by decide +kernel)
theorem rdX5_readTimes_27 : decode cX5_readTimes 27 = .ok (.iconst 0, 1) := dq0 kk_3 (by decide +kernel)
theorem rdX5_readTimes_28 : decode cX5_readTimes 28 = .ok (.ireturn, 1) := dq0 kk_172 (by decide +kernel)
theorem rdX5_readTimes_22 : decode cX5_readTimes 22 = .ok (.iload_n 2, 1) := dq0 kk_28 (by decide +kernel)
theorem rdX5_readTimes_23 : decode cX5_readTimes 23 = .ok (.iconst 1, 1) := dq0 kk_4 (by decide +kernel)
theorem rdX5_readTimes_24 : decode cX5_readTimes 24 = .ok (.if_icmp .ge 5, 3) := dqT kk_162 (by decide +kernel)
theorem rdX5_readTimes_29 : decode cX5_readTimes 29 = .ok (.aload_n 1, 1) := dq0 kk_43 (by decide +kernel)
theorem rdX5_readTimes_30 : decode cX5_readTimes 30 = .ok (.getfield 71, 3) := dqV kk_180 (by decide +kernel)
theorem rdX5_readTimes_33 : decode cX5_readTimes 33 = .ok (.iconst 3, 1) := dq0 kk_6 (by decide +kernel)
theorem rdX5_readTimes_34 : decode cX5_readTimes 34 = .ok (.iload_n 2, 1) := dq0 kk_28 (by decide +kernel)
theorem rdX5_readTimes_35 : decode cX5_readTimes 35 = .ok (.iastore, 1) := dq0 kk_79 (by decide +kernel)
theorem rdX5_readTimes_36 : decode cX5_readTimes 36 = .ok (.aload_n 0, 1) := dq0 kk_42 (by decide +kernel)
theorem rdX5_readTimes_37 : decode cX5_readTimes 37 = .ok (.invokevirtual 36, 3) := dqV kk_182 (by decide +kernel)
theorem rdX5_readTimes_40 : decode cX5_readTimes 40 = .ok (.iconst 1, 1) := dq0 kk_4 (by decide +kernel)
theorem rdX5_readTimes_41 : decode cX5_readTimes 41 = .ok (.ireturn, 1) := dq0 kk_172 (by decide +kernel)
set_option maxRecDepth 4000 in
theorem s_X5_readTimes {l : Launch} {D : va_G} {B : Nat} {cy : Nat → ClassId} {M : Mem} {T : Nat → Nat} {tn : Nat} (hT : okT T tn) (hTc : isTc M T tn) {x : Nat × Nat × (Nat → Int)} (hx1 : x.1 = 1) (hR : RS M T tn x.2.1) {ru : Nat} (hku : kd ru = (4, 0, 0)) (hU : isU M ru x.2.2) : Ci l D B cy yX5_readTimes cX5_readTimes 3 (some .boolean) 2 43 [.ref (B + 4), .ref (B + ru)] M (fun r M1 => XQ T tn M ru (rdN T tn x) r M1) := by
  refine s_any (by decide) (Nat.le_of_ble_eq_true rfl) ?_
  intro p e s m below meth c ls F hr hlocks w hl
  have F : CallFix p m c cX5_readTimes 3 s _ TB RX5 := F
  have hx := F.1
  have hb := F.2.1
  have hl : lv_has ls 3 [(0, .ref (B + 4)), (1, .ref (B + ru))] := hl
  have hN := hT.1
  have hb9 := hR.1
  have hskb := sk_le (T := T) hR.1
  have henb := en_le (T := T) hR.1
  have hjn := jn_01 T tn x.2.1
  have hru := ru_6 hku
  refine lv_aload_n hx hb rdX5_readTimes_0 rfl (lv_at hl 0 rfl) ?_
  refine f_5_0 F w (a := 4) rfl rtb_22 rdX5_readTimes_1 ?_
  refine lv_aload_n hx hb rdX5_readTimes_4 rfl (lv_at hl 0 rfl) ?_
  refine f_5_3 F w (a := 4) rfl rtb_33 rdX5_readTimes_5 ?_
  refine r_val (v := (zI (((sk T tn x.2.1) : Nat) : Int))) (hR.2.1) ?_
  refine x_Vi F w (As := [.int (zI (((sk T tn x.2.1) : Nat) : Int))]) (rest := []) (a := 1) (kd_lt (a := 1) (show kd 1 = (8, 0, 0) from rfl) (by decide)) (sh_8 rfl _ _) rfl (s_X8_signAt hT hTc (z := (((sk T tn x.2.1) : Nat) : Int)) (by omega)) rgv_X5_52 rhv_X8_signAt ⟨(Nat.le_of_ble_eq_true rfl), (Nat.le_of_ble_eq_true rfl)⟩ hl.1 rfl (Nat.le_of_ble_eq_true rfl) ⟨Nat.zero_le _, Nat.zero_le _⟩ rdX5_readTimes_8 (fun H locs w => ?_)
  have hg0 := sg_rg hT (((sk T tn x.2.1) : Nat) : Int)
  have hh0 := sg_c (T := T) (N := tn) (sk T tn x.2.1)
  refine k_Ni F w (As := [.int (zI (sg T tn (((sk T tn x.2.1) : Nat) : Int)))]) (rest := []) (s_X11_digitOf (z := (sg T tn (((sk T tn x.2.1) : Nat) : Int))) (by omega)) rgc_X11_digitOf rtb_28 rtb_51 (by decide) rhs_X11_digitOf ⟨(Nat.le_of_ble_eq_true rfl), (Nat.le_of_ble_eq_true rfl)⟩ hl.1 rfl (Nat.le_of_ble_eq_true rfl) ⟨Nat.zero_le _, Nat.zero_le _⟩ rdX5_readTimes_11 (fun r Ma3 H locs hp w => ?_)
  rcases hp with ⟨⟨hb2, rfl⟩ | ⟨hb2, rfl⟩, hMe⟩
  · rw [hMe] at w
    refine lv_istore_n (lv' := [(2, .int (zI ((sg T tn (((sk T tn x.2.1) : Nat) : Int)) - 48))), (0, .ref (B + 4)), (1, .ref (B + ru))]) hx hb rdX5_readTimes_14 rfl hl (by decide) rfl (fun ls hl => ?_)
    refine lv_aload_n hx hb rdX5_readTimes_15 rfl (lv_at hl 1 rfl) ?_
    refine f_5_5 F w (a := 4) rfl rtb_34 rdX5_readTimes_16 ?_
    refine r_val (v := (zI (((jn T tn x.2.1) : Nat) : Int))) (hR.2.2.2) ?_
    refine z_if_ne (tgt := 27) hx hb (by omega) rdX5_readTimes_19 (by decide) (fun c4 => ?_) (fun c4 => ?_)
    · refine lv_iconst (v := zI 0) hx hb rdX5_readTimes_27 rfl ?_
      have hdg : dgt T tn x.2.1 = -1 := by unfold dgt; rw [if_neg (by omega)]
      exact e_z F w hr hlocks (nar_z (by omega)) (XQ.mk0 (rdN_n hx1 hdg) hR hU FrU.rf) rdX5_readTimes_28
    · refine lv_iload_n hx hb rdX5_readTimes_22 rfl (lv_at hl 0 rfl) ?_
      refine lv_iconst (v := zI 1) hx hb rdX5_readTimes_23 rfl ?_
      refine z_icmp_ge (tgt := 29) hx hb (by omega) (by omega) rdX5_readTimes_24 (by decide) (fun c5 => ?_) (fun c5 => ?_)
      · refine lv_aload_n hx hb rdX5_readTimes_29 rfl (lv_at hl 2 rfl) ?_
        refine f_4_0 F w (a := ru) hku rtb_50 rdX5_readTimes_30 ?_
        refine lv_iconst (v := zI 3) hx hb rdX5_readTimes_33 rfl ?_
        refine lv_iload_n hx hb rdX5_readTimes_34 rfl (lv_at hl 0 rfl) ?_
        have hdg : dgt T tn x.2.1 = (T (sk T tn x.2.1) : Int) - 48 := by unfold dgt; rw [if_pos (by omega)]
        refine r_val (v := zI ((T (sk T tn x.2.1) : Int) - 48)) (congrArg zI (by omega)) ?_
        refine g_iast F w (a := (ru + 1)) (kd_r1 hku) (j := 3) ⟨by decide, by decide⟩ (by omega) rdX5_readTimes_35 (fun H locs w => ?_)
        refine lv_aload_n hx hb rdX5_readTimes_36 rfl (lv_at hl 1 rfl) ?_
        have Uq6 : isU (st M (ru + 1) 3 (zI ((T (sk T tn x.2.1) : Int) - 48))) ru (updI x.2.2 3 ((T (sk T tn x.2.1) : Int) - 48)) := isU.to hU
        have Rq6 : RS (st M (ru + 1) 3 (zI ((T (sk T tn x.2.1) : Int) - 48))) T tn x.2.1 := RS.fr hR (st_o (by omega))
        have Cq6 : isTc (st M (ru + 1) 3 (zI ((T (sk T tn x.2.1) : Int) - 48))) T tn := isTc.o hTc (by omega) (by omega)
        have Fq6 : FrU (st M (ru + 1) 3 (zI ((T (sk T tn x.2.1) : Int) - 48))) M ru := FrU.to FrU.rf (by omega)
        refine k_Vv F w (As := []) (rest := []) (a := 4) (kd_lt (a := 4) (show kd 4 = (5, 0, 0) from rfl) (by decide)) (sh_5 rfl _ _) rfl (s_X5_step hT Cq6 (E := en T tn x.2.1) (en_le Rq6.1).2.1 Rq6.2.2.1) rgv_X5_36 rhv_X5_step ⟨(Nat.le_of_ble_eq_true rfl), (Nat.le_of_ble_eq_true rfl)⟩ hl.1 rfl (Nat.le_of_ble_eq_true rfl) ⟨Nat.zero_le _, Nat.zero_le _⟩ rdX5_readTimes_37 (fun Ma8 H locs hp w => ?_)
        obtain ⟨hRy7, hQy7⟩ := hp
        have hCy7 := isTc.q Cq6 hQy7
        have hFy7 : FrU Ma8 M ru := FrU.tr Fq6 (FrU.q hQy7)
        have hUy7 := isU.fr Uq6 (hQy7.1 (ru + 1) (by omega))
        refine lv_iconst (v := zI 1) hx hb rdX5_readTimes_40 rfl ?_
        exact e_z F w hr hlocks (nar_z (by omega)) (XQ.mk1 ((rdN_y hx1 (by rw [hdg]; omega)).trans (by rw [hdg])) hRy7 hUy7 hFy7) rdX5_readTimes_41
      · refine lv_iconst (v := zI 0) hx hb rdX5_readTimes_27 rfl ?_
        have hdg : dgt T tn x.2.1 = -1 := by unfold dgt; rw [if_neg (by omega)]
        exact e_z F w hr hlocks (nar_z (by omega)) (XQ.mk0 (rdN_n hx1 hdg) hR hU FrU.rf) rdX5_readTimes_28
  · rw [hMe] at w
    refine lv_istore_n (lv' := [(2, .int (zI (-1))), (0, .ref (B + 4)), (1, .ref (B + ru))]) hx hb rdX5_readTimes_14 rfl hl (by decide) rfl (fun ls hl => ?_)
    refine lv_aload_n hx hb rdX5_readTimes_15 rfl (lv_at hl 1 rfl) ?_
    refine f_5_5 F w (a := 4) rfl rtb_34 rdX5_readTimes_16 ?_
    refine r_val (v := (zI (((jn T tn x.2.1) : Nat) : Int))) (hR.2.2.2) ?_
    refine z_if_ne (tgt := 27) hx hb (by omega) rdX5_readTimes_19 (by decide) (fun c9 => ?_) (fun c9 => ?_)
    · refine lv_iconst (v := zI 0) hx hb rdX5_readTimes_27 rfl ?_
      have hdg : dgt T tn x.2.1 = -1 := by unfold dgt; rw [if_neg (by omega)]
      exact e_z F w hr hlocks (nar_z (by omega)) (XQ.mk0 (rdN_n hx1 hdg) hR hU FrU.rf) rdX5_readTimes_28
    · refine lv_iload_n hx hb rdX5_readTimes_22 rfl (lv_at hl 0 rfl) ?_
      refine lv_iconst (v := zI 1) hx hb rdX5_readTimes_23 rfl ?_
      refine z_icmp_ge (tgt := 29) hx hb (by omega) (by omega) rdX5_readTimes_24 (by decide) (fun c10 => False.elim (by omega)) (fun c10 => ?_)
      refine lv_iconst (v := zI 0) hx hb rdX5_readTimes_27 rfl ?_
      have hdg : dgt T tn x.2.1 = -1 := by unfold dgt; rw [if_neg (by omega)]
      exact e_z F w hr hlocks (nar_z (by omega)) (XQ.mk0 (rdN_n hx1 hdg) hR hU FrU.rf) rdX5_readTimes_28
theorem rdX5_readTest_0 : decode cX5_readTest 0 = .ok (.aload_n 0, 1) := dq0 kk_42 (by decide +kernel)
theorem rdX5_readTest_1 : decode cX5_readTest 1 = .ok (.ldc 105, 2) := dqU kk_18 (by decide +kernel)
theorem rdX5_readTest_3 : decode cX5_readTest 3 = .ok (.invokevirtual 67, 3) := dqV kk_182 (by decide +kernel)
theorem rtk_X5_readWord : Cond.code yX5_readWord cX5_readWord 2 (some .boolean) ∈ TB := tbm (tc3 (List.mem_of_getElem? (i := 68) rfl)) rfl
theorem rgc_X5_readWord : GoodIn TB (cw yX5_readWord cX5_readWord 2 (some .boolean)) := goodIn_c2 rtk_X5_readWord
theorem rtb_52 : Cond.methodLink "ToneLines$RuleReader" 67 yX5_readWord ∈ TB := tbm (tc3 (List.mem_of_getElem? (i := 65) rfl)) rfl
theorem rtb_53 : Cond.instanceMethod yX5_readWord ∈ TB := tbm (tc3 (List.mem_of_getElem? (i := 67) rfl)) rfl
theorem rtb_54 : Cond.selects "ToneLines$RuleReader" yX5_readWord yX5_readWord ∈ TB := tbp (List.mem_of_getElem? (i := 8) rfl) rfl
theorem rgv_X5_67 : GoodIn TB (wsV RX5 67 RX5 yX5_readWord (cw yX5_readWord cX5_readWord 2 (some .boolean))) := goodIn_4 rtb_52 rtb_53 rtb_54 rtb_37 rgc_X5_readWord
theorem rhv_X5_readWord : yX5_readWord.cls = RX5 ∧ yX5_readWord.cls ≠ "java/lang/invoke/MethodHandle" ∧ yX5_readWord.cls ≠ "java/lang/invoke/VarHandle" ∧ (parseMethodDescriptor yX5_readWord.desc).map (fun d => d.parameters.length) = some 1 := by decide +kernel
theorem rdX5_readTest_6 : decode cX5_readTest 6 = .ok (.ifCond .eq 11, 3) := dqT kk_153 (by decide +kernel)
theorem rdX5_readTest_9 : decode cX5_readTest 9 = .ok (.aload_n 1, 1) := dq0 kk_43 (by decide +kernel)
theorem rdX5_readTest_10 : decode cX5_readTest 10 = .ok (.getfield 71, 3) := dqV kk_180 (by decide +kernel)
theorem rdX5_readTest_13 : decode cX5_readTest 13 = .ok (.bipush 6, 2) := dqS kk_16 (by decide +kernel)
theorem rdX5_readTest_15 : decode cX5_readTest 15 = .ok (.iconst 1, 1) := dq0 kk_4 (by decide +kernel)
theorem rdX5_readTest_16 : decode cX5_readTest 16 = .ok (.iastore, 1) := dq0 kk_79 (by decide +kernel)
theorem rdX5_readTest_17 : decode cX5_readTest 17 = .ok (.aload_n 0, 1) := dq0 kk_42 (by decide +kernel)
theorem rdX5_readTest_18 : decode cX5_readTest 18 = .ok (.aload_n 1, 1) := dq0 kk_43 (by decide +kernel)
theorem rdX5_readTest_19 : decode cX5_readTest 19 = .ok (.iconst 5, 1) := dq0 kk_8 (by decide +kernel)
theorem rdX5_readTest_20 : decode cX5_readTest 20 = .ok (.ldc 107, 2) := dqU kk_18 (by decide +kernel)
theorem rdX5_readTest_22 : decode cX5_readTest 22 = .ok (.invokevirtual 77, 3) := dqV kk_182 (by decide +kernel)
theorem rtk_X5_readChoice : Cond.code yX5_readChoice cX5_readChoice 5 (some .boolean) ∈ TB := tbm (tc3 (List.mem_of_getElem? (i := 98) rfl)) rfl
theorem rgc_X5_readChoice : GoodIn TB (cw yX5_readChoice cX5_readChoice 5 (some .boolean)) := goodIn_c2 rtk_X5_readChoice
theorem rtb_55 : Cond.methodLink "ToneLines$RuleReader" 77 yX5_readChoice ∈ TB := tbm (tc3 (List.mem_of_getElem? (i := 95) rfl)) rfl
theorem rtb_56 : Cond.instanceMethod yX5_readChoice ∈ TB := tbm (tc3 (List.mem_of_getElem? (i := 97) rfl)) rfl
theorem rtb_57 : Cond.selects "ToneLines$RuleReader" yX5_readChoice yX5_readChoice ∈ TB := tbp (List.mem_of_getElem? (i := 10) rfl) rfl
theorem rgv_X5_77 : GoodIn TB (wsV RX5 77 RX5 yX5_readChoice (cw yX5_readChoice cX5_readChoice 5 (some .boolean))) := goodIn_4 rtb_55 rtb_56 rtb_57 rtb_37 rgc_X5_readChoice
theorem rhv_X5_readChoice : yX5_readChoice.cls = RX5 ∧ yX5_readChoice.cls ≠ "java/lang/invoke/MethodHandle" ∧ yX5_readChoice.cls ≠ "java/lang/invoke/VarHandle" ∧ (parseMethodDescriptor yX5_readChoice.desc).map (fun d => d.parameters.length) = some 3 := by decide +kernel
theorem rdX5_readTest_25 : decode cX5_readTest 25 = .ok (.ifCond .ne 5, 3) := dqT kk_154 (by decide +kernel)
theorem rdX5_readTest_28 : decode cX5_readTest 28 = .ok (.iconst 0, 1) := dq0 kk_3 (by decide +kernel)
theorem rdX5_readTest_29 : decode cX5_readTest 29 = .ok (.ireturn, 1) := dq0 kk_172 (by decide +kernel)
theorem rdX5_readTest_30 : decode cX5_readTest 30 = .ok (.aload_n 1, 1) := dq0 kk_43 (by decide +kernel)
theorem rdX5_readTest_31 : decode cX5_readTest 31 = .ok (.getfield 71, 3) := dqV kk_180 (by decide +kernel)
theorem rdX5_readTest_34 : decode cX5_readTest 34 = .ok (.iconst 5, 1) := dq0 kk_8 (by decide +kernel)
theorem rdX5_readTest_35 : decode cX5_readTest 35 = .ok (.iaload, 1) := dq0 kk_46 (by decide +kernel)
theorem rdX5_readTest_36 : decode cX5_readTest 36 = .ok (.istore_n 2, 1) := dq0 kk_61 (by decide +kernel)
theorem rdX5_readTest_37 : decode cX5_readTest 37 = .ok (.iload_n 2, 1) := dq0 kk_28 (by decide +kernel)
theorem rdX5_readTest_38 : decode cX5_readTest 38 = .ok (.iconst 5, 1) := dq0 kk_8 (by decide +kernel)
theorem rdX5_readTest_39 : decode cX5_readTest 39 = .ok (.if_icmp .eq 9, 3) := dqT kk_159 (by decide +kernel)
theorem rdX5_readTest_48 : decode cX5_readTest 48 = .ok (.aload_n 0, 1) := dq0 kk_42 (by decide +kernel)
theorem rdX5_readTest_49 : decode cX5_readTest 49 = .ok (.aload_n 1, 1) := dq0 kk_43 (by decide +kernel)
theorem rdX5_readTest_50 : decode cX5_readTest 50 = .ok (.bipush 7, 2) := dqS kk_16 (by decide +kernel)
theorem rdX5_readTest_52 : decode cX5_readTest 52 = .ok (.ldc 99, 2) := dqU kk_18 (by decide +kernel)
theorem rdX5_readTest_54 : decode cX5_readTest 54 = .ok (.invokevirtual 77, 3) := dqV kk_182 (by decide +kernel)
theorem rdX5_readTest_57 : decode cX5_readTest 57 = .ok (.ifCond .eq 7, 3) := dqT kk_153 (by decide +kernel)
theorem rdX5_readTest_64 : decode cX5_readTest 64 = .ok (.iconst 0, 1) := dq0 kk_3 (by decide +kernel)
theorem rdX5_readTest_65 : decode cX5_readTest 65 = .ok (.ireturn, 1) := dq0 kk_172 (by decide +kernel)
theorem rdX5_readTest_60 : decode cX5_readTest 60 = .ok (.iconst 1, 1) := dq0 kk_4 (by decide +kernel)
theorem rdX5_readTest_61 : decode cX5_readTest 61 = .ok (.goto 4, 3) := dqT kk_167 (by decide +kernel)
theorem rdX5_readTest_42 : decode cX5_readTest 42 = .ok (.iload_n 2, 1) := dq0 kk_28 (by decide +kernel)
theorem rdX5_readTest_43 : decode cX5_readTest 43 = .ok (.bipush 6, 2) := dqS kk_16 (by decide +kernel)
theorem rdX5_readTest_45 : decode cX5_readTest 45 = .ok (.if_icmp .ne 15, 3) := dqT kk_160 (by decide +kernel)
set_option maxRecDepth 4000 in
theorem s_X5_readTest {l : Launch} {D : va_G} {B : Nat} {cy : Nat → ClassId} {M : Mem} {T : Nat → Nat} {tn : Nat} (hT : okT T tn) (hTc : isTc M T tn) {x : Nat × Nat × (Nat → Int)} (hx1 : x.1 = 1) (hR : RS M T tn x.2.1) {ru : Nat} (hku : kd ru = (4, 0, 0)) (hU : isU M ru x.2.2) (hok : okX x.2.2) : Ci l D B cy yX5_readTest cX5_readTest 3 (some .boolean) 6 134 [.ref (B + 4), .ref (B + ru)] M (fun r M1 => XQ T tn M ru (rdT T tn x) r M1) := by
  refine s_any (by decide) (Nat.le_of_ble_eq_true rfl) ?_
  intro p e s m below meth c ls F hr hlocks w hl
  have F : CallFix p m c cX5_readTest 3 s _ TB RX5 := F
  have hx := F.1
  have hb := F.2.1
  have hl : lv_has ls 3 [(0, .ref (B + 4)), (1, .ref (B + ru))] := hl
  have hN := hT.1
  have hb9 := hR.1
  have hskb := sk_le (T := T) hR.1
  have henb := en_le (T := T) hR.1
  have hjn := jn_01 T tn x.2.1
  have hru := ru_6 hku
  refine lv_aload_n hx hb rdX5_readTest_0 rfl (lv_at hl 0 rfl) ?_
  refine va_ldcS F.1 F.2.1 F.2.2.2.1 (show vk_R "ToneLines$RuleReader" 105 "not" (D.2 200 9) s from (w.2.2.2.2.1 9 (by decide)).1) rdX5_readTest_1 ?_
  refine k_Vi F w (As := [.ref (D.2 200 9)]) (rest := []) (a := 4) (kd_lt (a := 4) (show kd 4 = (5, 0, 0) from rfl) (by decide)) (sh_5 rfl _ _) rfl (s_X5_readWord hT hTc (x := x) hx1 hR (i9 := 9) (show 9 < NSL by decide) (by decide)) rgv_X5_67 rhv_X5_readWord ⟨(Nat.le_of_ble_eq_true rfl), (Nat.le_of_ble_eq_true rfl)⟩ hl.1 rfl (Nat.le_of_ble_eq_true rfl) ⟨Nat.zero_le _, Nat.zero_le _⟩ rdX5_readTest_3 (fun r Ma2 H locs hp w => ?_)
  rcases (show (tk T tn x.2.1 21 21 = 0 ∧ r = zI 1 ∧ RS Ma2 T tn (en T tn x.2.1) ∧ FrQ Ma2 M) ∨ (tk T tn x.2.1 21 21 ≠ 0 ∧ r = zI 0 ∧ Ma2 = M) from hp) with ⟨hty1, rfl, hRy1, hQy1⟩ | ⟨hty1, rfl, hMe⟩
  · have hCy1 := isTc.q hTc hQy1
    have hFy1 : FrU Ma2 M ru := FrU.tr FrU.rf (FrU.q hQy1)
    have hUy1 := isU.fr hU (hQy1.1 (ru + 1) (by omega))
    refine z_if_eq (tgt := 17) hx hb (by omega) rdX5_readTest_6 (by decide) (fun c3 => False.elim (by omega)) (fun c3 => ?_)
    refine lv_aload_n hx hb rdX5_readTest_9 rfl (lv_at hl 1 rfl) ?_
    refine f_4_0 F w (a := ru) hku rtb_50 rdX5_readTest_10 ?_
    refine lv_bipush (v := zI 6) hx hb rdX5_readTest_13 (by decide) ?_
    refine lv_iconst (v := zI 1) hx hb rdX5_readTest_15 rfl ?_
    refine g_iast F w (a := (ru + 1)) (kd_r1 hku) (j := 6) ⟨by decide, by decide⟩ (by omega) rdX5_readTest_16 (fun H locs w => ?_)
    have Uq4 : isU (st Ma2 (ru + 1) 6 (zI 1)) ru (updI x.2.2 6 1) := isU.to hUy1
    have Rq4 : RS (st Ma2 (ru + 1) 6 (zI 1)) T tn (en T tn x.2.1) := RS.fr hRy1 (st_o (by omega))
    have Cq4 : isTc (st Ma2 (ru + 1) 6 (zI 1)) T tn := isTc.o hCy1 (by omega) (by omega)
    have Fq4 : FrU (st Ma2 (ru + 1) 6 (zI 1)) M ru := FrU.to hFy1 (by omega)
    have eq5 : (rdO T tn 21 6 x) = (1, (en T tn x.2.1), (updI x.2.2 6 1)) := rdO_y hx1 hty1
    have gq5 : Prod.fst (rdO T tn 21 6 x) = 1 := by rw [eq5]
    have Rq5 : RS (st Ma2 (ru + 1) 6 (zI 1)) T tn ((rdO T tn 21 6 x)).2.1 := by rw [eq5]; exact Rq4
    have Uq5 : isU (st Ma2 (ru + 1) 6 (zI 1)) ru ((rdO T tn 21 6 x)).2.2 := by rw [eq5]; exact Uq4
    have hok5 := okX_C (T := T) (N := tn) (lo := 22) (hi := 28) (k := 5) (okX_O (T := T) (N := tn) (lo := 21) (k := 6) hok) 5 (by decide)
    refine lv_aload_n hx hb rdX5_readTest_17 rfl (lv_at hl 0 rfl) ?_
    refine lv_aload_n hx hb rdX5_readTest_18 rfl (lv_at hl 1 rfl) ?_
    refine lv_iconst (v := zI 5) hx hb rdX5_readTest_19 rfl ?_
    refine va_ldcS F.1 F.2.1 F.2.2.2.1 (show vk_R "ToneLines$RuleReader" 107 "begin end heavy many float before after" (D.2 200 10) s from (w.2.2.2.2.1 10 (by decide)).1) rdX5_readTest_20 ?_
    refine k_Vi F w (As := [.ref (B + ru), .int (zI 5), .ref (D.2 200 10)]) (rest := []) (a := 4) (kd_lt (a := 4) (show kd 4 = (5, 0, 0) from rfl) (by decide)) (sh_5 rfl _ _) rfl (s_X5_readChoice hT Cq4 (x := (rdO T tn 21 6 x)) gq5 Rq5 hku Uq5 (k := 5) (by decide) (i9 := 10) (show 10 < NSL by decide) (by decide)) rgv_X5_77 rhv_X5_readChoice ⟨(Nat.le_of_ble_eq_true rfl), (Nat.le_of_ble_eq_true rfl)⟩ hl.1 rfl (Nat.le_of_ble_eq_true rfl) ⟨Nat.zero_le _, Nat.zero_le _⟩ rdX5_readTest_22 (fun r Ma7 H locs hp w => ?_)
    obtain ⟨hGy6, hry6, hRy6, hUy6, hFy6⟩ : XQ T tn (st Ma2 (ru + 1) 6 (zI 1)) ru (rdC T tn 22 28 5 (rdO T tn 21 6 x)) r Ma7 := hp
    have hCy6 := isTc.u Cq4 hFy6 (ru_6 hku)
    have hFy6 : FrU Ma7 M ru := FrU.tr Fq4 hFy6
    rcases hGy6.1 with gy6 | gy6
    · refine r_val (v := zI 0) (hry6.trans (by rw [gy6]; rfl)) ?_
      refine z_if_ne (tgt := 30) hx hb (by omega) rdX5_readTest_25 (by decide) (fun c8 => False.elim (by omega)) (fun c8 => ?_)
      refine lv_iconst (v := zI 0) hx hb rdX5_readTest_28 rfl ?_
      exact e_z F w hr hlocks (nar_z (by omega)) (XQ.of (rdT_n (Or.inl gy6)) hGy6 hRy6 hUy6 hFy6 (congrArg (fun q9 : Nat => (q9 : Int)) gy6)) rdX5_readTest_29
    · refine r_val (v := zI 1) (hry6.trans (by rw [gy6]; rfl)) ?_
      refine z_if_ne (tgt := 30) hx hb (by omega) rdX5_readTest_25 (by decide) (fun c9 => ?_) (fun c9 => False.elim (by omega))
      have hv5 := rdC_v gy6
      refine lv_aload_n hx hb rdX5_readTest_30 rfl (lv_at hl 1 rfl) ?_
      refine f_4_0 F w (a := ru) hku rtb_50 rdX5_readTest_31 ?_
      refine lv_iconst (v := zI 5) hx hb rdX5_readTest_34 rfl ?_
      refine g_iald F w (a := (ru + 1)) (kd_r1 hku) (j := 5) ⟨by decide, by decide⟩ (by omega) rdX5_readTest_35 ?_
      refine r_val (v := (zI (((rdC T tn 22 28 5 (rdO T tn 21 6 x))).2.2 5))) (hUy6 5 (by decide)) ?_
      refine lv_istore_n (lv' := [(2, .int (zI (((rdC T tn 22 28 5 (rdO T tn 21 6 x))).2.2 5))), (0, .ref (B + 4)), (1, .ref (B + ru))]) hx hb rdX5_readTest_36 rfl hl (by decide) rfl (fun ls hl => ?_)
      refine lv_iload_n hx hb rdX5_readTest_37 rfl (lv_at hl 0 rfl) ?_
      refine lv_iconst (v := zI 5) hx hb rdX5_readTest_38 rfl ?_
      refine z_icmp_eq (tgt := 48) hx hb (by omega) (by omega) rdX5_readTest_39 (by decide) (fun c11 => ?_) (fun c11 => ?_)
      · refine lv_aload_n hx hb rdX5_readTest_48 rfl (lv_at hl 1 rfl) ?_
        refine lv_aload_n hx hb rdX5_readTest_49 rfl (lv_at hl 2 rfl) ?_
        refine lv_bipush (v := zI 7) hx hb rdX5_readTest_50 (by decide) ?_
        refine va_ldcS F.1 F.2.1 F.2.2.2.1 (show vk_R "ToneLines$RuleReader" 99 "low mid high any" (D.2 200 5) s from (w.2.2.2.2.1 5 (by decide)).1) rdX5_readTest_52 ?_
        refine k_Vi F w (As := [.ref (B + ru), .int (zI 7), .ref (D.2 200 5)]) (rest := []) (a := 4) (kd_lt (a := 4) (show kd 4 = (5, 0, 0) from rfl) (by decide)) (sh_5 rfl _ _) rfl (s_X5_readChoice hT hCy6 (x := (rdC T tn 22 28 5 (rdO T tn 21 6 x))) gy6 hRy6 hku hUy6 (k := 7) (by decide) (i9 := 5) (show 5 < NSL by decide) (by decide)) rgv_X5_77 rhv_X5_readChoice ⟨(Nat.le_of_ble_eq_true rfl), (Nat.le_of_ble_eq_true rfl)⟩ hl.1 rfl (Nat.le_of_ble_eq_true rfl) ⟨Nat.zero_le _, Nat.zero_le _⟩ rdX5_readTest_54 (fun r Ma13 H locs hp w => ?_)
        obtain ⟨hGy12, hry12, hRy12, hUy12, hFy12⟩ : XQ T tn Ma7 ru (rdC T tn 11 14 7 (rdC T tn 22 28 5 (rdO T tn 21 6 x))) r Ma13 := hp
        have hCy12 := isTc.u hCy6 hFy12 (ru_6 hku)
        have hFy12 : FrU Ma13 M ru := FrU.tr hFy6 hFy12
        rcases hGy12.1 with gy12 | gy12
        · refine r_val (v := zI 0) (hry12.trans (by rw [gy12]; rfl)) ?_
          refine z_if_eq (tgt := 64) hx hb (by omega) rdX5_readTest_57 (by decide) (fun c14 => ?_) (fun c14 => False.elim (by omega))
          refine lv_iconst (v := zI 0) hx hb rdX5_readTest_64 rfl ?_
          exact e_z F w hr hlocks (nar_z (by omega)) (XQ.of (rdT_y gy6 (by omega)) hGy12 hRy12 hUy12 hFy12 (congrArg (fun q9 : Nat => (q9 : Int)) gy12)) rdX5_readTest_65
        · refine r_val (v := zI 1) (hry12.trans (by rw [gy12]; rfl)) ?_
          refine z_if_eq (tgt := 64) hx hb (by omega) rdX5_readTest_57 (by decide) (fun c15 => False.elim (by omega)) (fun c15 => ?_)
          refine lv_iconst (v := zI 1) hx hb rdX5_readTest_60 rfl ?_
          refine lv_goto (tgt := 65) hx hb rdX5_readTest_61 (by decide) ?_
          exact e_z F w hr hlocks (nar_z (by omega)) (XQ.of (rdT_y gy6 (by omega)) hGy12 hRy12 hUy12 hFy12 (congrArg (fun q9 : Nat => (q9 : Int)) gy12)) rdX5_readTest_65
      · refine lv_iload_n hx hb rdX5_readTest_42 rfl (lv_at hl 0 rfl) ?_
        refine lv_bipush (v := zI 6) hx hb rdX5_readTest_43 (by decide) ?_
        refine z_icmp_ne (tgt := 60) hx hb (by omega) (by omega) rdX5_readTest_45 (by decide) (fun c16 => ?_) (fun c16 => ?_)
        · refine lv_iconst (v := zI 1) hx hb rdX5_readTest_60 rfl ?_
          refine lv_goto (tgt := 65) hx hb rdX5_readTest_61 (by decide) ?_
          exact e_z F w hr hlocks (nar_z (by omega)) (XQ.of (rdT_n (Or.inr (by omega))) hGy6 hRy6 hUy6 hFy6 (congrArg (fun q9 : Nat => (q9 : Int)) gy6)) rdX5_readTest_65
        · refine lv_aload_n hx hb rdX5_readTest_48 rfl (lv_at hl 1 rfl) ?_
          refine lv_aload_n hx hb rdX5_readTest_49 rfl (lv_at hl 2 rfl) ?_
          refine lv_bipush (v := zI 7) hx hb rdX5_readTest_50 (by decide) ?_
          refine va_ldcS F.1 F.2.1 F.2.2.2.1 (show vk_R "ToneLines$RuleReader" 99 "low mid high any" (D.2 200 5) s from (w.2.2.2.2.1 5 (by decide)).1) rdX5_readTest_52 ?_
          refine k_Vi F w (As := [.ref (B + ru), .int (zI 7), .ref (D.2 200 5)]) (rest := []) (a := 4) (kd_lt (a := 4) (show kd 4 = (5, 0, 0) from rfl) (by decide)) (sh_5 rfl _ _) rfl (s_X5_readChoice hT hCy6 (x := (rdC T tn 22 28 5 (rdO T tn 21 6 x))) gy6 hRy6 hku hUy6 (k := 7) (by decide) (i9 := 5) (show 5 < NSL by decide) (by decide)) rgv_X5_77 rhv_X5_readChoice ⟨(Nat.le_of_ble_eq_true rfl), (Nat.le_of_ble_eq_true rfl)⟩ hl.1 rfl (Nat.le_of_ble_eq_true rfl) ⟨Nat.zero_le _, Nat.zero_le _⟩ rdX5_readTest_54 (fun r Ma18 H locs hp w => ?_)
          obtain ⟨hGy17, hry17, hRy17, hUy17, hFy17⟩ : XQ T tn Ma7 ru (rdC T tn 11 14 7 (rdC T tn 22 28 5 (rdO T tn 21 6 x))) r Ma18 := hp
          have hCy17 := isTc.u hCy6 hFy17 (ru_6 hku)
          have hFy17 : FrU Ma18 M ru := FrU.tr hFy6 hFy17
          rcases hGy17.1 with gy17 | gy17
          · refine r_val (v := zI 0) (hry17.trans (by rw [gy17]; rfl)) ?_
            refine z_if_eq (tgt := 64) hx hb (by omega) rdX5_readTest_57 (by decide) (fun c19 => ?_) (fun c19 => False.elim (by omega))
            refine lv_iconst (v := zI 0) hx hb rdX5_readTest_64 rfl ?_
            exact e_z F w hr hlocks (nar_z (by omega)) (XQ.of (rdT_y gy6 (by omega)) hGy17 hRy17 hUy17 hFy17 (congrArg (fun q9 : Nat => (q9 : Int)) gy17)) rdX5_readTest_65
          · refine r_val (v := zI 1) (hry17.trans (by rw [gy17]; rfl)) ?_
            refine z_if_eq (tgt := 64) hx hb (by omega) rdX5_readTest_57 (by decide) (fun c20 => False.elim (by omega)) (fun c20 => ?_)
            refine lv_iconst (v := zI 1) hx hb rdX5_readTest_60 rfl ?_
            refine lv_goto (tgt := 65) hx hb rdX5_readTest_61 (by decide) ?_
            exact e_z F w hr hlocks (nar_z (by omega)) (XQ.of (rdT_y gy6 (by omega)) hGy17 hRy17 hUy17 hFy17 (congrArg (fun q9 : Nat => (q9 : Int)) gy17)) rdX5_readTest_65
  · rw [hMe] at w
    refine z_if_eq (tgt := 17) hx hb (by omega) rdX5_readTest_6 (by decide) (fun c21 => ?_) (fun c21 => False.elim (by omega))
    have eq22 : (rdO T tn 21 6 x) = (1, x.2.1, x.2.2) := (rdO_n hty1).trans (eta1 hx1)
    have gq22 : Prod.fst (rdO T tn 21 6 x) = 1 := by rw [eq22]
    have Rq22 : RS M T tn ((rdO T tn 21 6 x)).2.1 := by rw [eq22]; exact hR
    have Uq22 : isU M ru ((rdO T tn 21 6 x)).2.2 := by rw [eq22]; exact hU
    have hok5 := okX_C (T := T) (N := tn) (lo := 22) (hi := 28) (k := 5) (okX_O (T := T) (N := tn) (lo := 21) (k := 6) hok) 5 (by decide)
    refine lv_aload_n hx hb rdX5_readTest_17 rfl (lv_at hl 0 rfl) ?_
    refine lv_aload_n hx hb rdX5_readTest_18 rfl (lv_at hl 1 rfl) ?_
    refine lv_iconst (v := zI 5) hx hb rdX5_readTest_19 rfl ?_
    refine va_ldcS F.1 F.2.1 F.2.2.2.1 (show vk_R "ToneLines$RuleReader" 107 "begin end heavy many float before after" (D.2 200 10) s from (w.2.2.2.2.1 10 (by decide)).1) rdX5_readTest_20 ?_
    refine k_Vi F w (As := [.ref (B + ru), .int (zI 5), .ref (D.2 200 10)]) (rest := []) (a := 4) (kd_lt (a := 4) (show kd 4 = (5, 0, 0) from rfl) (by decide)) (sh_5 rfl _ _) rfl (s_X5_readChoice hT hTc (x := (rdO T tn 21 6 x)) gq22 Rq22 hku Uq22 (k := 5) (by decide) (i9 := 10) (show 10 < NSL by decide) (by decide)) rgv_X5_77 rhv_X5_readChoice ⟨(Nat.le_of_ble_eq_true rfl), (Nat.le_of_ble_eq_true rfl)⟩ hl.1 rfl (Nat.le_of_ble_eq_true rfl) ⟨Nat.zero_le _, Nat.zero_le _⟩ rdX5_readTest_22 (fun r Ma24 H locs hp w => ?_)
    obtain ⟨hGy23, hry23, hRy23, hUy23, hFy23⟩ : XQ T tn M ru (rdC T tn 22 28 5 (rdO T tn 21 6 x)) r Ma24 := hp
    have hCy23 := isTc.u hTc hFy23 (ru_6 hku)
    have hFy23 : FrU Ma24 M ru := FrU.tr FrU.rf hFy23
    rcases hGy23.1 with gy23 | gy23
    · refine r_val (v := zI 0) (hry23.trans (by rw [gy23]; rfl)) ?_
      refine z_if_ne (tgt := 30) hx hb (by omega) rdX5_readTest_25 (by decide) (fun c25 => False.elim (by omega)) (fun c25 => ?_)
      refine lv_iconst (v := zI 0) hx hb rdX5_readTest_28 rfl ?_
      exact e_z F w hr hlocks (nar_z (by omega)) (XQ.of (rdT_n (Or.inl gy23)) hGy23 hRy23 hUy23 hFy23 (congrArg (fun q9 : Nat => (q9 : Int)) gy23)) rdX5_readTest_29
    · refine r_val (v := zI 1) (hry23.trans (by rw [gy23]; rfl)) ?_
      refine z_if_ne (tgt := 30) hx hb (by omega) rdX5_readTest_25 (by decide) (fun c26 => ?_) (fun c26 => False.elim (by omega))
      have hv5 := rdC_v gy23
      refine lv_aload_n hx hb rdX5_readTest_30 rfl (lv_at hl 1 rfl) ?_
      refine f_4_0 F w (a := ru) hku rtb_50 rdX5_readTest_31 ?_
      refine lv_iconst (v := zI 5) hx hb rdX5_readTest_34 rfl ?_
      refine g_iald F w (a := (ru + 1)) (kd_r1 hku) (j := 5) ⟨by decide, by decide⟩ (by omega) rdX5_readTest_35 ?_
      refine r_val (v := (zI (((rdC T tn 22 28 5 (rdO T tn 21 6 x))).2.2 5))) (hUy23 5 (by decide)) ?_
      refine lv_istore_n (lv' := [(2, .int (zI (((rdC T tn 22 28 5 (rdO T tn 21 6 x))).2.2 5))), (0, .ref (B + 4)), (1, .ref (B + ru))]) hx hb rdX5_readTest_36 rfl hl (by decide) rfl (fun ls hl => ?_)
      refine lv_iload_n hx hb rdX5_readTest_37 rfl (lv_at hl 0 rfl) ?_
      refine lv_iconst (v := zI 5) hx hb rdX5_readTest_38 rfl ?_
      refine z_icmp_eq (tgt := 48) hx hb (by omega) (by omega) rdX5_readTest_39 (by decide) (fun c28 => ?_) (fun c28 => ?_)
      · refine lv_aload_n hx hb rdX5_readTest_48 rfl (lv_at hl 1 rfl) ?_
        refine lv_aload_n hx hb rdX5_readTest_49 rfl (lv_at hl 2 rfl) ?_
        refine lv_bipush (v := zI 7) hx hb rdX5_readTest_50 (by decide) ?_
        refine va_ldcS F.1 F.2.1 F.2.2.2.1 (show vk_R "ToneLines$RuleReader" 99 "low mid high any" (D.2 200 5) s from (w.2.2.2.2.1 5 (by decide)).1) rdX5_readTest_52 ?_
        refine k_Vi F w (As := [.ref (B + ru), .int (zI 7), .ref (D.2 200 5)]) (rest := []) (a := 4) (kd_lt (a := 4) (show kd 4 = (5, 0, 0) from rfl) (by decide)) (sh_5 rfl _ _) rfl (s_X5_readChoice hT hCy23 (x := (rdC T tn 22 28 5 (rdO T tn 21 6 x))) gy23 hRy23 hku hUy23 (k := 7) (by decide) (i9 := 5) (show 5 < NSL by decide) (by decide)) rgv_X5_77 rhv_X5_readChoice ⟨(Nat.le_of_ble_eq_true rfl), (Nat.le_of_ble_eq_true rfl)⟩ hl.1 rfl (Nat.le_of_ble_eq_true rfl) ⟨Nat.zero_le _, Nat.zero_le _⟩ rdX5_readTest_54 (fun r Ma30 H locs hp w => ?_)
        obtain ⟨hGy29, hry29, hRy29, hUy29, hFy29⟩ : XQ T tn Ma24 ru (rdC T tn 11 14 7 (rdC T tn 22 28 5 (rdO T tn 21 6 x))) r Ma30 := hp
        have hCy29 := isTc.u hCy23 hFy29 (ru_6 hku)
        have hFy29 : FrU Ma30 M ru := FrU.tr hFy23 hFy29
        rcases hGy29.1 with gy29 | gy29
        · refine r_val (v := zI 0) (hry29.trans (by rw [gy29]; rfl)) ?_
          refine z_if_eq (tgt := 64) hx hb (by omega) rdX5_readTest_57 (by decide) (fun c31 => ?_) (fun c31 => False.elim (by omega))
          refine lv_iconst (v := zI 0) hx hb rdX5_readTest_64 rfl ?_
          exact e_z F w hr hlocks (nar_z (by omega)) (XQ.of (rdT_y gy23 (by omega)) hGy29 hRy29 hUy29 hFy29 (congrArg (fun q9 : Nat => (q9 : Int)) gy29)) rdX5_readTest_65
        · refine r_val (v := zI 1) (hry29.trans (by rw [gy29]; rfl)) ?_
          refine z_if_eq (tgt := 64) hx hb (by omega) rdX5_readTest_57 (by decide) (fun c32 => False.elim (by omega)) (fun c32 => ?_)
          refine lv_iconst (v := zI 1) hx hb rdX5_readTest_60 rfl ?_
          refine lv_goto (tgt := 65) hx hb rdX5_readTest_61 (by decide) ?_
          exact e_z F w hr hlocks (nar_z (by omega)) (XQ.of (rdT_y gy23 (by omega)) hGy29 hRy29 hUy29 hFy29 (congrArg (fun q9 : Nat => (q9 : Int)) gy29)) rdX5_readTest_65
      · refine lv_iload_n hx hb rdX5_readTest_42 rfl (lv_at hl 0 rfl) ?_
        refine lv_bipush (v := zI 6) hx hb rdX5_readTest_43 (by decide) ?_
        refine z_icmp_ne (tgt := 60) hx hb (by omega) (by omega) rdX5_readTest_45 (by decide) (fun c33 => ?_) (fun c33 => ?_)
        · refine lv_iconst (v := zI 1) hx hb rdX5_readTest_60 rfl ?_
          refine lv_goto (tgt := 65) hx hb rdX5_readTest_61 (by decide) ?_
          exact e_z F w hr hlocks (nar_z (by omega)) (XQ.of (rdT_n (Or.inr (by omega))) hGy23 hRy23 hUy23 hFy23 (congrArg (fun q9 : Nat => (q9 : Int)) gy23)) rdX5_readTest_65
        · refine lv_aload_n hx hb rdX5_readTest_48 rfl (lv_at hl 1 rfl) ?_
          refine lv_aload_n hx hb rdX5_readTest_49 rfl (lv_at hl 2 rfl) ?_
          refine lv_bipush (v := zI 7) hx hb rdX5_readTest_50 (by decide) ?_
          refine va_ldcS F.1 F.2.1 F.2.2.2.1 (show vk_R "ToneLines$RuleReader" 99 "low mid high any" (D.2 200 5) s from (w.2.2.2.2.1 5 (by decide)).1) rdX5_readTest_52 ?_
          refine k_Vi F w (As := [.ref (B + ru), .int (zI 7), .ref (D.2 200 5)]) (rest := []) (a := 4) (kd_lt (a := 4) (show kd 4 = (5, 0, 0) from rfl) (by decide)) (sh_5 rfl _ _) rfl (s_X5_readChoice hT hCy23 (x := (rdC T tn 22 28 5 (rdO T tn 21 6 x))) gy23 hRy23 hku hUy23 (k := 7) (by decide) (i9 := 5) (show 5 < NSL by decide) (by decide)) rgv_X5_77 rhv_X5_readChoice ⟨(Nat.le_of_ble_eq_true rfl), (Nat.le_of_ble_eq_true rfl)⟩ hl.1 rfl (Nat.le_of_ble_eq_true rfl) ⟨Nat.zero_le _, Nat.zero_le _⟩ rdX5_readTest_54 (fun r Ma35 H locs hp w => ?_)
          obtain ⟨hGy34, hry34, hRy34, hUy34, hFy34⟩ : XQ T tn Ma24 ru (rdC T tn 11 14 7 (rdC T tn 22 28 5 (rdO T tn 21 6 x))) r Ma35 := hp
          have hCy34 := isTc.u hCy23 hFy34 (ru_6 hku)
          have hFy34 : FrU Ma35 M ru := FrU.tr hFy23 hFy34
          rcases hGy34.1 with gy34 | gy34
          · refine r_val (v := zI 0) (hry34.trans (by rw [gy34]; rfl)) ?_
            refine z_if_eq (tgt := 64) hx hb (by omega) rdX5_readTest_57 (by decide) (fun c36 => ?_) (fun c36 => False.elim (by omega))
            refine lv_iconst (v := zI 0) hx hb rdX5_readTest_64 rfl ?_
            exact e_z F w hr hlocks (nar_z (by omega)) (XQ.of (rdT_y gy23 (by omega)) hGy34 hRy34 hUy34 hFy34 (congrArg (fun q9 : Nat => (q9 : Int)) gy34)) rdX5_readTest_65
          · refine r_val (v := zI 1) (hry34.trans (by rw [gy34]; rfl)) ?_
            refine z_if_eq (tgt := 64) hx hb (by omega) rdX5_readTest_57 (by decide) (fun c37 => False.elim (by omega)) (fun c37 => ?_)
            refine lv_iconst (v := zI 1) hx hb rdX5_readTest_60 rfl ?_
            refine lv_goto (tgt := 65) hx hb rdX5_readTest_61 (by decide) ?_
            exact e_z F w hr hlocks (nar_z (by omega)) (XQ.of (rdT_y gy23 (by omega)) hGy34 hRy34 hUy34 hFy34 (congrArg (fun q9 : Nat => (q9 : Int)) gy34)) rdX5_readTest_65
