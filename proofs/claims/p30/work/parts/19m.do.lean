theorem wdX12_fuses_0 : decode cX12_fuses 0 = .ok (.iload_n 1, 1) := dq0 kk_27 (by decide +kernel)
theorem wdX12_fuses_1 : decode cX12_fuses 1 = .ok (.iconst 1, 1) := dq0 kk_4 (by decide +kernel)
theorem wdX12_fuses_2 : decode cX12_fuses 2 = .ok (.iadd, 1) := dq0 kk_96 (by decide +kernel)
theorem wdX12_fuses_3 : decode cX12_fuses 3 = .ok (.aload_n 0, 1) := dq0 kk_42 (by decide +kernel)
theorem wdX12_fuses_4 : decode cX12_fuses 4 = .ok (.getfield 17, 3) := dqV kk_180 (by decide +kernel)
theorem wdX12_fuses_7 : decode cX12_fuses 7 = .ok (.iconst 0, 1) := dq0 kk_3 (by decide +kernel)
theorem wdX12_fuses_8 : decode cX12_fuses 8 = .ok (.iaload, 1) := dq0 kk_46 (by decide +kernel)
theorem wdX12_fuses_9 : decode cX12_fuses 9 = .ok (.if_icmp .ge 89, 3) := dqT kk_162 (by decide +kernel)
theorem wdX12_fuses_12 : decode cX12_fuses 12 = .ok (.aload_n 0, 1) := dq0 kk_42 (by decide +kernel)
theorem wdX12_fuses_13 : decode cX12_fuses 13 = .ok (.getfield 17, 3) := dqV kk_180 (by decide +kernel)
theorem wdX12_fuses_16 : decode cX12_fuses 16 = .ok (.iconst 1, 1) := dq0 kk_4 (by decide +kernel)
theorem wdX12_fuses_17 : decode cX12_fuses 17 = .ok (.iload_n 1, 1) := dq0 kk_27 (by decide +kernel)
theorem wdX12_fuses_18 : decode cX12_fuses 18 = .ok (.iadd, 1) := dq0 kk_96 (by decide +kernel)
theorem wdX12_fuses_19 : decode cX12_fuses 19 = .ok (.iconst 1, 1) := dq0 kk_4 (by decide +kernel)
theorem wdX12_fuses_20 : decode cX12_fuses 20 = .ok (.iadd, 1) := dq0 kk_96 (by decide +kernel)
theorem wdX12_fuses_21 : decode cX12_fuses 21 = .ok (.iaload, 1) := dq0 kk_46 (by decide +kernel)
theorem wdX12_fuses_22 : decode cX12_fuses 22 = .ok (.aload_n 0, 1) := dq0 kk_42 (by decide +kernel)
theorem wdX12_fuses_23 : decode cX12_fuses 23 = .ok (.getfield 17, 3) := dqV kk_180 (by decide +kernel)
theorem wdX12_fuses_26 : decode cX12_fuses 26 = .ok (.iconst 1, 1) := dq0 kk_4 (by decide +kernel)
theorem wdX12_fuses_27 : decode cX12_fuses 27 = .ok (.iload_n 1, 1) := dq0 kk_27 (by decide +kernel)
theorem wdX12_fuses_28 : decode cX12_fuses 28 = .ok (.iadd, 1) := dq0 kk_96 (by decide +kernel)
theorem wdX12_fuses_29 : decode cX12_fuses 29 = .ok (.iaload, 1) := dq0 kk_46 (by decide +kernel)
theorem wdX12_fuses_30 : decode cX12_fuses 30 = .ok (.if_icmp .ne 68, 3) := dqT kk_160 (by decide +kernel)
theorem wdX12_fuses_33 : decode cX12_fuses 33 = .ok (.aload_n 0, 1) := dq0 kk_42 (by decide +kernel)
theorem wdX12_fuses_34 : decode cX12_fuses 34 = .ok (.getfield 17, 3) := dqV kk_180 (by decide +kernel)
theorem wdX12_fuses_37 : decode cX12_fuses 37 = .ok (.bipush 13, 2) := dqS kk_16 (by decide +kernel)
theorem wdX12_fuses_39 : decode cX12_fuses 39 = .ok (.iload_n 1, 1) := dq0 kk_27 (by decide +kernel)
theorem wdX12_fuses_40 : decode cX12_fuses 40 = .ok (.iadd, 1) := dq0 kk_96 (by decide +kernel)
theorem wdX12_fuses_41 : decode cX12_fuses 41 = .ok (.iconst 1, 1) := dq0 kk_4 (by decide +kernel)
theorem wdX12_fuses_42 : decode cX12_fuses 42 = .ok (.iadd, 1) := dq0 kk_96 (by decide +kernel)
theorem wdX12_fuses_43 : decode cX12_fuses 43 = .ok (.iaload, 1) := dq0 kk_46 (by decide +kernel)
theorem wdX12_fuses_44 : decode cX12_fuses 44 = .ok (.aload_n 0, 1) := dq0 kk_42 (by decide +kernel)
theorem wdX12_fuses_45 : decode cX12_fuses 45 = .ok (.getfield 17, 3) := dqV kk_180 (by decide +kernel)
theorem wdX12_fuses_48 : decode cX12_fuses 48 = .ok (.bipush 13, 2) := dqS kk_16 (by decide +kernel)
theorem wdX12_fuses_50 : decode cX12_fuses 50 = .ok (.iload_n 1, 1) := dq0 kk_27 (by decide +kernel)
theorem wdX12_fuses_51 : decode cX12_fuses 51 = .ok (.iadd, 1) := dq0 kk_96 (by decide +kernel)
theorem wdX12_fuses_52 : decode cX12_fuses 52 = .ok (.iaload, 1) := dq0 kk_46 (by decide +kernel)
theorem wdX12_fuses_53 : decode cX12_fuses 53 = .ok (.iconst (-1), 1) := dq0 kk_2 (by decide +kernel)
theorem wdX12_fuses_54 : decode cX12_fuses 54 = .ok (.ixor, 1) := dq0 kk_130 (by decide +kernel)
theorem wdX12_fuses_55 : decode cX12_fuses 55 = .ok (.iand, 1) := dq0 kk_126 (by decide +kernel)
theorem wdX12_fuses_56 : decode cX12_fuses 56 = .ok (.istore_n 2, 1) := dq0 kk_61 (by decide +kernel)
theorem wdX12_fuses_57 : decode cX12_fuses 57 = .ok (.aload_n 0, 1) := dq0 kk_42 (by decide +kernel)
theorem wdX12_fuses_58 : decode cX12_fuses 58 = .ok (.dup, 1) := dq0 kk_89 (by decide +kernel)
theorem wdX12_fuses_59 : decode cX12_fuses 59 = .ok (.getfield 66, 3) := dqV kk_180 (by decide +kernel)
theorem wtb_125 : Cond.fieldLink "ToneLinesModel" 66 "ToneLinesModel" "changes" "I" ∈ TB := tb_46
theorem wdX12_fuses_62 : decode cX12_fuses 62 = .ok (.iload_n 2, 1) := dq0 kk_28 (by decide +kernel)
theorem wdX12_fuses_63 : decode cX12_fuses 63 = .ok (.invokestatic 76, 3) := dqV kk_184 (by decide +kernel)
theorem wdX12_fuses_66 : decode cX12_fuses 66 = .ok (.iconst 1, 1) := dq0 kk_4 (by decide +kernel)
theorem wdX12_fuses_67 : decode cX12_fuses 67 = .ok (.iadd, 1) := dq0 kk_96 (by decide +kernel)
theorem wdX12_fuses_68 : decode cX12_fuses 68 = .ok (.iadd, 1) := dq0 kk_96 (by decide +kernel)
theorem wdX12_fuses_69 : decode cX12_fuses 69 = .ok (.putfield 66, 3) := dqV kk_181 (by decide +kernel)
theorem wdX12_fuses_72 : decode cX12_fuses 72 = .ok (.aload_n 0, 1) := dq0 kk_42 (by decide +kernel)
theorem wdX12_fuses_73 : decode cX12_fuses 73 = .ok (.getfield 17, 3) := dqV kk_180 (by decide +kernel)
theorem wdX12_fuses_76 : decode cX12_fuses 76 = .ok (.bipush 13, 2) := dqS kk_16 (by decide +kernel)
theorem wdX12_fuses_78 : decode cX12_fuses 78 = .ok (.iload_n 1, 1) := dq0 kk_27 (by decide +kernel)
theorem wdX12_fuses_79 : decode cX12_fuses 79 = .ok (.iadd, 1) := dq0 kk_96 (by decide +kernel)
theorem wdX12_fuses_80 : decode cX12_fuses 80 = .ok (.dup2, 1) := dq0 kk_92 (by decide +kernel)
theorem wdX12_fuses_81 : decode cX12_fuses 81 = .ok (.iaload, 1) := dq0 kk_46 (by decide +kernel)
theorem wdX12_fuses_82 : decode cX12_fuses 82 = .ok (.iload_n 2, 1) := dq0 kk_28 (by decide +kernel)
theorem wdX12_fuses_83 : decode cX12_fuses 83 = .ok (.ior, 1) := dq0 kk_128 (by decide +kernel)
theorem wdX12_fuses_84 : decode cX12_fuses 84 = .ok (.iastore, 1) := dq0 kk_79 (by decide +kernel)
theorem wdX12_fuses_85 : decode cX12_fuses 85 = .ok (.aload_n 0, 1) := dq0 kk_42 (by decide +kernel)
theorem wdX12_fuses_86 : decode cX12_fuses 86 = .ok (.getfield 17, 3) := dqV kk_180 (by decide +kernel)
theorem wdX12_fuses_89 : decode cX12_fuses 89 = .ok (.iload_n 1, 1) := dq0 kk_27 (by decide +kernel)
theorem wdX12_fuses_90 : decode cX12_fuses 90 = .ok (.iconst 1, 1) := dq0 kk_4 (by decide +kernel)
theorem wdX12_fuses_91 : decode cX12_fuses 91 = .ok (.iadd, 1) := dq0 kk_96 (by decide +kernel)
theorem wdX12_fuses_92 : decode cX12_fuses 92 = .ok (.invokestatic 108, 3) := dqV kk_184 (by decide +kernel)
theorem wtk_X12_remove : Cond.code yX12_remove cX12_remove 3 none ∈ TB := tbm (tc6 (List.mem_of_getElem? (i := 24) rfl)) rfl
theorem wgc_X12_remove : GoodIn TB (cw yX12_remove cX12_remove 3 none) := goodIn_c2 wtk_X12_remove
theorem wtb_126 : Cond.methodLink "ToneLinesModel" 108 yX12_remove ∈ TB := tbm (tc6 (List.mem_of_getElem? (i := 22) rfl)) rfl
theorem wtb_127 : Cond.static yX12_remove ∈ TB := tbm (tc6 (List.mem_of_getElem? (i := 23) rfl)) rfl
theorem wgs_X12_108 : GoodIn TB (va_wsS RX12 108 yX12_remove (cw yX12_remove cX12_remove 3 none)) := goodIn_3 wtb_126 wtb_127 wtb_105 wgc_X12_remove
theorem whs_X12_remove : yX12_remove.cls ≠ "java/lang/invoke/MethodHandle" ∧ yX12_remove.cls ≠ "java/lang/invoke/VarHandle" ∧ (parseMethodDescriptor yX12_remove.desc).map (fun d => d.parameters.length) = some 2 := by decide +kernel
theorem wdX12_fuses_95 : decode cX12_fuses 95 = .ok (.goto (-95), 3) := dqT kk_167 (by decide +kernel)
set_option maxRecDepth 4000 in
theorem lp_X12_fuses {p : Program} {l : Launch} {e : Env} {s : State} {m : MethodId} {args : Array Value} {below : List Frame} {meth : Method} {c : Code} {D : va_G} {B : Nat} {cy : Nat → ClassId} {H0 : Heap} {Q : State → Prop} {M : Mem} {R : Room} {q hv ed t : Nat} {o : Wo} {z9 : Int} (F : CallFix p m c cX12_fuses 3 s args TB RX12) (hR1 : 1 ≤ R.frames) (hR2 : 22 ≤ R.locals)  (kk : ∀ (j : Nat) (cc : Nat) (Nm : Mem) (o1 : Wo) (H : Heap) (locs : List Loc) (ls : Array Slot), (RW Nm q hv ed o1 (z9 + (cc : Int))) → (fuF (o.1 - 1 - t) t o = (o1, cc)) → (FrC Nm M) → (cc ≤ 156) → Wd D B cy s H0 Nm H locs → lv_has ls 3 [(0, .ref (B + 146))] → W p l e R s m args below meth c H locs 0 0 Q (F0 m 98 ls [])) : ∀ (f : Nat) (j : Nat) (cc : Nat) (Nm : Mem) (o1 : Wo), (j + t + 1 = o1.1) → (RW Nm q hv ed o1 (z9 + (cc : Int))) → (fuI (o.1 - 1 - t) t j cc o o1) → (cc + 13 * j ≤ 156) → (FrC Nm M) → (j ≤ f) → ∀ (H : Heap) (locs : List Loc) (ls : Array Slot), Wd D B cy s H0 Nm H locs → lv_has ls 3 [(0, .ref (B + 146)), (1, .int (zI (t : Int)))] → W p l e R s m args below meth c H locs 0 0 Q (F0 m 0 ls []) := by
  have hx := F.1
  have hb := F.2.1
  intro f
  induction f with
  | zero =>
    intro j cc Nm o1 i0 i1 i2 i3 i4 hf H locs ls w hl
    have hW1 := i1.1
    have hwf1 := i1.wf
    have hKL1 := hwf1.2.2.2.2
    have hn1 := hwf1.1
    have hq1 := hwf1.2.1
    have hc1 := i1.2.2.2.2
    refine lv_iload_n hx hb wdX12_fuses_0 rfl (lv_at hl 1 rfl) ?_
    refine lv_iconst (v := zI 1) hx hb wdX12_fuses_1 rfl ?_
    refine z_iadd (z := (((t + 1) : Nat) : Int)) hx hb wdX12_fuses_2 (by omega) ?_
    refine lv_aload_n hx hb wdX12_fuses_3 rfl (lv_at hl 0 rfl) ?_
    refine f_12_2 F w (a := 146) rfl wtb_102 wdX12_fuses_4 ?_
    refine lv_iconst (v := zI 0) hx hb wdX12_fuses_7 rfl ?_
    refine g_iald F w (a := 148) rfl (j := 0) ⟨by decide, by decide⟩ (by omega) wdX12_fuses_8 ?_
    refine r_val (v := (zI ((o1.1 : Nat) : Int))) (hW1.1) ?_
    refine z_icmp_ge (tgt := 98) hx hb (by omega) (by omega) wdX12_fuses_9 (by decide) (fun c1 => ?_) (fun c1 => False.elim (by omega))
    exact kk j cc Nm o1 _ _ ls i1 (fuI_e i2 (by omega)) i4 (by omega) w (lv_sub hl [0] rfl)
  | succ f ih =>
    intro j cc Nm o1 i0 i1 i2 i3 i4 hf H locs ls w hl
    have hW1 := i1.1
    have hwf1 := i1.wf
    have hKL1 := hwf1.2.2.2.2
    have hn1 := hwf1.1
    have hq1 := hwf1.2.1
    have hc1 := i1.2.2.2.2
    refine lv_iload_n hx hb wdX12_fuses_0 rfl (lv_at hl 1 rfl) ?_
    refine lv_iconst (v := zI 1) hx hb wdX12_fuses_1 rfl ?_
    refine z_iadd (z := (((t + 1) : Nat) : Int)) hx hb wdX12_fuses_2 (by omega) ?_
    refine lv_aload_n hx hb wdX12_fuses_3 rfl (lv_at hl 0 rfl) ?_
    refine f_12_2 F w (a := 146) rfl wtb_102 wdX12_fuses_4 ?_
    refine lv_iconst (v := zI 0) hx hb wdX12_fuses_7 rfl ?_
    refine g_iald F w (a := 148) rfl (j := 0) ⟨by decide, by decide⟩ (by omega) wdX12_fuses_8 ?_
    refine r_val (v := (zI ((o1.1 : Nat) : Int))) (hW1.1) ?_
    refine z_icmp_ge (tgt := 98) hx hb (by omega) (by omega) wdX12_fuses_9 (by decide) (fun c1 => ?_) (fun c1 => ?_)
    · exact kk j cc Nm o1 _ _ ls i1 (fuI_e i2 (by omega)) i4 (by omega) w (lv_sub hl [0] rfl)
    · refine lv_aload_n hx hb wdX12_fuses_12 rfl (lv_at hl 0 rfl) ?_
      refine f_12_2 F w (a := 146) rfl wtb_102 wdX12_fuses_13 ?_
      refine lv_iconst (v := zI 1) hx hb wdX12_fuses_16 rfl ?_
      refine lv_iload_n hx hb wdX12_fuses_17 rfl (lv_at hl 1 rfl) ?_
      refine z_iadd (z := (((1 + t) : Nat) : Int)) hx hb wdX12_fuses_18 (by omega) ?_
      refine lv_iconst (v := zI 1) hx hb wdX12_fuses_19 rfl ?_
      refine z_iadd (z := ((((1 + t) + 1) : Nat) : Int)) hx hb wdX12_fuses_20 (by omega) ?_
      refine g_iald F w (a := 148) rfl (j := ((1 + t) + 1)) (ix_n (by omega)) (by omega) wdX12_fuses_21 ?_
      have hK1 := (hKL1 (t + 1) (by omega)).1
      refine r_val (v := (zI (((o1.2.1 (t + 1)) : Nat) : Int))) (hW1.2.2.2.2.1 (t + 1) (by omega)) ?_
      refine lv_aload_n hx hb wdX12_fuses_22 rfl (lv_at hl 0 rfl) ?_
      refine f_12_2 F w (a := 146) rfl wtb_102 wdX12_fuses_23 ?_
      refine lv_iconst (v := zI 1) hx hb wdX12_fuses_26 rfl ?_
      refine lv_iload_n hx hb wdX12_fuses_27 rfl (lv_at hl 1 rfl) ?_
      refine z_iadd (z := (((1 + t) : Nat) : Int)) hx hb wdX12_fuses_28 (by omega) ?_
      refine g_iald F w (a := 148) rfl (j := (1 + t)) (ix_n (by omega)) (by omega) wdX12_fuses_29 ?_
      have hK1 := (hKL1 t (by omega)).1
      refine r_val (v := (zI (((o1.2.1 t) : Nat) : Int))) (hW1.2.2.2.2.1 t (by omega)) ?_
      refine z_icmp_ne (tgt := 98) hx hb (by omega) (by omega) wdX12_fuses_30 (by decide) (fun c2 => ?_) (fun c2 => ?_)
      · exact kk j cc Nm o1 _ _ ls i1 (fuI_e i2 (by omega)) i4 (by omega) w (lv_sub hl [0] rfl)
      · refine lv_aload_n hx hb wdX12_fuses_33 rfl (lv_at hl 0 rfl) ?_
        refine f_12_2 F w (a := 146) rfl wtb_102 wdX12_fuses_34 ?_
        refine lv_bipush (v := zI 13) hx hb wdX12_fuses_37 (by decide) ?_
        refine lv_iload_n hx hb wdX12_fuses_39 rfl (lv_at hl 1 rfl) ?_
        refine z_iadd (z := (((13 + t) : Nat) : Int)) hx hb wdX12_fuses_40 (by omega) ?_
        refine lv_iconst (v := zI 1) hx hb wdX12_fuses_41 rfl ?_
        refine z_iadd (z := ((((13 + t) + 1) : Nat) : Int)) hx hb wdX12_fuses_42 (by omega) ?_
        refine g_iald F w (a := 148) rfl (j := ((13 + t) + 1)) (ix_n (by omega)) (by omega) wdX12_fuses_43 ?_
        have hL2 := (hKL1 (t + 1) (by omega)).2
        refine r_val (v := (zI (((o1.2.2 (t + 1)) : Nat) : Int))) (hW1.2.2.2.2.2 (t + 1) (by omega)) ?_
        refine lv_aload_n hx hb wdX12_fuses_44 rfl (lv_at hl 0 rfl) ?_
        refine f_12_2 F w (a := 146) rfl wtb_102 wdX12_fuses_45 ?_
        refine lv_bipush (v := zI 13) hx hb wdX12_fuses_48 (by decide) ?_
        refine lv_iload_n hx hb wdX12_fuses_50 rfl (lv_at hl 1 rfl) ?_
        refine z_iadd (z := (((13 + t) : Nat) : Int)) hx hb wdX12_fuses_51 (by omega) ?_
        refine g_iald F w (a := 148) rfl (j := (13 + t)) (ix_n (by omega)) (by omega) wdX12_fuses_52 ?_
        have hL2 := (hKL1 t (by omega)).2
        refine r_val (v := (zI (((o1.2.2 t) : Nat) : Int))) (hW1.2.2.2.2.2 t (by omega)) ?_
        refine lv_iconst (v := zI (-1)) hx hb wdX12_fuses_53 rfl ?_
        refine lv_ixor hx hb wdX12_fuses_54 ?_
        refine lv_iand hx hb wdX12_fuses_55 ?_
        refine r_val (v := (zI (((andn (o1.2.2 (t + 1)) (o1.2.2 t)) : Nat) : Int))) (zb_andn _ _) ?_
        have q4 := andn_le (o1.2.2 (t + 1)) (o1.2.2 t)
        refine lv_istore_n (lv' := [(2, .int (zI (((andn (o1.2.2 (t + 1)) (o1.2.2 t)) : Nat) : Int))), (0, .ref (B + 146)), (1, .int (zI (t : Int)))]) hx hb wdX12_fuses_56 rfl hl (by decide) rfl (fun ls hl => ?_)
        refine lv_aload_n hx hb wdX12_fuses_57 rfl (lv_at hl 1 rfl) ?_
        refine lv_dup hx hb wdX12_fuses_58 rfl ?_
        refine f_12_3 F w (a := 146) rfl wtb_125 wdX12_fuses_59 ?_
        refine r_val (v := (zI (z9 + (cc : Int)))) (hc1) ?_
        refine lv_iload_n hx hb wdX12_fuses_62 rfl (lv_at hl 0 rfl) ?_
        refine x_Si F w (As := [.int (zI (((andn (o1.2.2 (t + 1)) (o1.2.2 t)) : Nat) : Int))]) (rest := [.int (zI (z9 + (cc : Int))), .ref (B + 146)]) (s_X12_bitsOf (m9 := (andn (o1.2.2 (t + 1)) (o1.2.2 t))) (by omega)) wgs_X12_76 whs_X12_bitsOf ⟨(by omega), (by omega)⟩ hl.1 rfl (Nat.le_of_ble_eq_true rfl) ⟨Nat.zero_le _, Nat.zero_le _⟩ wdX12_fuses_63 (fun H locs w => ?_)
        have hp4 := (pop_le (andn (o1.2.2 (t + 1)) (o1.2.2 t)) (by omega)).1
        refine lv_iconst (v := zI 1) hx hb wdX12_fuses_66 rfl ?_
        refine z_iadd (z := ((((pop (andn (o1.2.2 (t + 1)) (o1.2.2 t))) + 1) : Nat) : Int)) hx hb wdX12_fuses_67 (by omega) ?_
        refine z_iadd (z := ((z9 + (cc : Int)) + ((((pop (andn (o1.2.2 (t + 1)) (o1.2.2 t))) + 1) : Nat) : Int))) hx hb wdX12_fuses_68 (by omega) ?_
        refine u_12_3 F w (a := 146) rfl wtb_125 wdX12_fuses_69 (fun H locs w => ?_)
        refine lv_aload_n hx hb wdX12_fuses_72 rfl (lv_at hl 1 rfl) ?_
        refine f_12_2 F w (a := 146) rfl wtb_102 wdX12_fuses_73 ?_
        refine lv_bipush (v := zI 13) hx hb wdX12_fuses_76 (by decide) ?_
        refine lv_iload_n hx hb wdX12_fuses_78 rfl (lv_at hl 2 rfl) ?_
        refine z_iadd (z := (((13 + t) : Nat) : Int)) hx hb wdX12_fuses_79 (by omega) ?_
        refine lv_dup2_11 hx hb wdX12_fuses_80 rfl rfl ?_
        refine g_iald F w (a := 148) rfl (j := (13 + t)) (ix_n (by omega)) (by omega) wdX12_fuses_81 ?_
        have hL5 := (hKL1 t (by omega)).2
        refine r_val (v := (zI (((o1.2.2 t) : Nat) : Int))) ((st_ne (Or.inl (by omega))).trans (hW1.2.2.2.2.2 t (by omega))) ?_
        refine lv_iload_n hx hb wdX12_fuses_82 rfl (lv_at hl 0 rfl) ?_
        refine lv_ior hx hb wdX12_fuses_83 ?_
        refine r_val (v := (zI ((((o1.2.2 t) ||| (andn (o1.2.2 (t + 1)) (o1.2.2 t))) : Nat) : Int))) (zb_or (o1.2.2 t) (andn (o1.2.2 (t + 1)) (o1.2.2 t))) ?_
        have q6 := or_lt12 (a := (o1.2.2 t)) (b := (andn (o1.2.2 (t + 1)) (o1.2.2 t))) (by omega) (by omega)
        refine g_iast F w (a := 148) rfl (j := (13 + t)) (ix_n (by omega)) (by omega) wdX12_fuses_84 (fun H locs w => ?_)
        refine lv_aload_n hx hb wdX12_fuses_85 rfl (lv_at hl 1 rfl) ?_
        refine f_12_2 F w (a := 146) rfl wtb_102 wdX12_fuses_86 ?_
        refine lv_iload_n hx hb wdX12_fuses_89 rfl (lv_at hl 2 rfl) ?_
        refine lv_iconst (v := zI 1) hx hb wdX12_fuses_90 rfl ?_
        refine z_iadd (z := (((t + 1) : Nat) : Int)) hx hb wdX12_fuses_91 (by omega) ?_
        refine k_Sv F w (As := [.ref (B + 148), .int (zI (((t + 1) : Nat) : Int))]) (rest := []) (s_X12_remove (a := 148) rfl (lineW2 hW1 hn1 (by omega)).1 (wf_upd hwf1 (by omega)) (t := t + 1) (by omega)) wgs_X12_108 whs_X12_remove ⟨(by omega), (by omega)⟩ hl.1 rfl (Nat.le_of_ble_eq_true rfl) ⟨Nat.zero_le _, Nat.zero_le _⟩ wdX12_fuses_92 (fun Ma7 H locs hp w => ?_)
        rcases hp with ⟨hW2, hF2⟩
        refine lv_goto (tgt := 0) hx hb wdX12_fuses_95 (by decide) ?_
        exact ih (j - 1) (cc + (pop (andn (o1.2.2 (t + 1)) (o1.2.2 t)) + 1)) Ma7 (fuO t o1) (by show j - 1 + t + 1 = o1.1 - 1; omega) ⟨hW2, okW_fu i1.2.1 (by omega), i1.2.2.1, i1.2.2.2.1, (congrFun (hF2.1 146 (by decide)) 3).trans ((lineW2 (z := zI (z9 + (cc : Int) + ((pop (andn (o1.2.2 (t + 1)) (o1.2.2 t)) + 1 : Nat) : Int))) (x := (o1.2.2 t ||| (andn (o1.2.2 (t + 1)) (o1.2.2 t)))) hW1 hn1 (show t < o1.1 by omega)).2.1.trans (congrArg zI (by omega)))⟩ (by have h9 := fuI_s (j := j - 1) (by rw [show j - 1 + 1 = j by omega]; exact i2) (by omega) (by omega); exact h9) (by omega) (FrC.tr i4 (FrC.tr (lineW2 (z := zI (z9 + (cc : Int) + ((pop (andn (o1.2.2 (t + 1)) (o1.2.2 t)) + 1 : Nat) : Int))) (x := (o1.2.2 t ||| (andn (o1.2.2 (t + 1)) (o1.2.2 t)))) hW1 hn1 (show t < o1.1 by omega)).2.2 (FrC.of1 hF2))) (by omega) _ _ ls w (lv_sub hl [1, 2] rfl)
theorem wdX12_fuses_98 : decode cX12_fuses 98 = .ok (.return_, 1) := dq0 kk_177 (by decide +kernel)
set_option maxRecDepth 4000 in
theorem s_X12_fuses {l : Launch} {D : va_G} {B : Nat} {cy : Nat → ClassId} {M : Mem} {q hv ed : Nat} {o : Wo} {z9 : Int} (hR : RW M q hv ed o z9) {t : Nat} (ht : t < o.1) : Cv l D B cy yX12_fuses cX12_fuses 3 1 22 [.ref (B + 146), .int (zI (t : Int))] M (fun M1 => RQ q hv ed (fuF (o.1 - 1 - t) t o) 156 z9 M M1) := by
  refine s_any (by decide) (Nat.le_of_ble_eq_true rfl) ?_
  intro p e s m below meth c ls F hr hlocks w hl
  have F : CallFix p m c cX12_fuses 3 s _ TB RX12 := F
  have hx := F.1
  have hb := F.2.1
  have hl : lv_has ls 3 [(0, .ref (B + 146)), (1, .int (zI (t : Int)))] := hl
  have hW := hR.1
  have hwf := hR.wf
  have hKL := hwf.2.2.2.2
  have hn12 := hwf.1
  have hq12 := hwf.2.1
  have hhv := hwf.2.2.1
  have hed := hwf.2.2.2.1
  have hc := hR.2.2.2.2
  refine lp_X12_fuses (z9 := z9) F (Nat.le_of_ble_eq_true rfl) (Nat.le_of_ble_eq_true rfl)  (fun j cc Nm o1 H locs ls x0 x1 x2 x3 w hl => ?_) (o.1 - 1 - t) (o.1 - 1 - t) 0 M o (by omega) (hR.e rfl (by omega)) fuI_0 (by omega) FrC.rf (by omega) _ _ ls w (lv_sub hl [0, 1] rfl)
  exact e_v F w hr hlocks ⟨o1, cc, x1, x0, x2, x3⟩ wdX12_fuses_98
theorem wdX12_flattens_10 : decode cX12_flattens 10 = .ok (.iload 4, 2) := dqU kk_21 (by decide +kernel)
theorem wdX12_flattens_12 : decode cX12_flattens 12 = .ok (.invokestatic 76, 3) := dqV kk_184 (by decide +kernel)
theorem wdX12_flattens_15 : decode cX12_flattens 15 = .ok (.iload_n 2, 1) := dq0 kk_28 (by decide +kernel)
theorem wdX12_flattens_16 : decode cX12_flattens 16 = .ok (.if_icmp .le 43, 3) := dqT kk_164 (by decide +kernel)
theorem wdX12_flattens_19 : decode cX12_flattens 19 = .ok (.iload_n 3, 1) := dq0 kk_29 (by decide +kernel)
theorem wdX12_flattens_20 : decode cX12_flattens 20 = .ok (.ifCond .eq 11, 3) := dqT kk_153 (by decide +kernel)
theorem wdX12_flattens_31 : decode cX12_flattens 31 = .ok (.iload 4, 2) := dqU kk_21 (by decide +kernel)
theorem wdX12_flattens_33 : decode cX12_flattens 33 = .ok (.invokestatic 63, 3) := dqV kk_184 (by decide +kernel)
theorem wdX12_flattens_36 : decode cX12_flattens 36 = .ok (.istore 5, 2) := dqU kk_54 (by decide +kernel)
theorem wdX12_flattens_38 : decode cX12_flattens 38 = .ok (.aload_n 0, 1) := dq0 kk_42 (by decide +kernel)
theorem wdX12_flattens_39 : decode cX12_flattens 39 = .ok (.iload 5, 2) := dqU kk_21 (by decide +kernel)
theorem wdX12_flattens_41 : decode cX12_flattens 41 = .ok (.iload_n 1, 1) := dq0 kk_27 (by decide +kernel)
theorem wdX12_flattens_42 : decode cX12_flattens 42 = .ok (.invokevirtual 102, 3) := dqV kk_182 (by decide +kernel)
theorem wtk_X12_goes : Cond.code yX12_goes cX12_goes 3 none ∈ TB := tk_X12_goes
theorem wgc_X12_goes : GoodIn TB (cw yX12_goes cX12_goes 3 none) := goodIn_c2 wtk_X12_goes
theorem wtb_128 : Cond.methodLink "ToneLinesModel" 102 yX12_goes ∈ TB := tb_92
theorem wtb_129 : Cond.instanceMethod yX12_goes ∈ TB := tb_93
theorem wtb_130 : Cond.selects "ToneLinesModel" yX12_goes yX12_goes ∈ TB := tb_94
theorem wgv_X12_102 : GoodIn TB (wsV RX12 102 RX12 yX12_goes (cw yX12_goes cX12_goes 3 none)) := goodIn_4 wtb_128 wtb_129 wtb_130 wtb_105 wgc_X12_goes
theorem whv_X12_goes : yX12_goes.cls = RX12 ∧ yX12_goes.cls ≠ "java/lang/invoke/MethodHandle" ∧ yX12_goes.cls ≠ "java/lang/invoke/VarHandle" ∧ (parseMethodDescriptor yX12_goes.desc).map (fun d => d.parameters.length) = some 2 := hv_X12_goes
theorem wdX12_flattens_45 : decode cX12_flattens 45 = .ok (.iload 4, 2) := dqU kk_21 (by decide +kernel)
theorem wdX12_flattens_47 : decode cX12_flattens 47 = .ok (.iconst 1, 1) := dq0 kk_4 (by decide +kernel)
theorem wdX12_flattens_48 : decode cX12_flattens 48 = .ok (.iload 5, 2) := dqU kk_21 (by decide +kernel)
theorem wdX12_flattens_50 : decode cX12_flattens 50 = .ok (.ishl, 1) := dq0 kk_120 (by decide +kernel)
theorem wdX12_flattens_51 : decode cX12_flattens 51 = .ok (.iconst (-1), 1) := dq0 kk_2 (by decide +kernel)
theorem wdX12_flattens_52 : decode cX12_flattens 52 = .ok (.ixor, 1) := dq0 kk_130 (by decide +kernel)
theorem wdX12_flattens_53 : decode cX12_flattens 53 = .ok (.iand, 1) := dq0 kk_126 (by decide +kernel)
theorem wdX12_flattens_54 : decode cX12_flattens 54 = .ok (.istore 4, 2) := dqU kk_54 (by decide +kernel)
theorem wdX12_flattens_56 : decode cX12_flattens 56 = .ok (.goto (-46), 3) := dqT kk_167 (by decide +kernel)
theorem wdX12_flattens_23 : decode cX12_flattens 23 = .ok (.iload 4, 2) := dqU kk_21 (by decide +kernel)
theorem wdX12_flattens_25 : decode cX12_flattens 25 = .ok (.invokestatic 59, 3) := dqV kk_184 (by decide +kernel)
theorem wdX12_flattens_28 : decode cX12_flattens 28 = .ok (.goto 8, 3) := dqT kk_167 (by decide +kernel)
set_option maxRecDepth 4000 in
theorem lp_X12_flattens {p : Program} {l : Launch} {e : Env} {s : State} {m : MethodId} {args : Array Value} {below : List Frame} {meth : Method} {c : Code} {D : va_G} {B : Nat} {cy : Nat → ClassId} {H0 : Heap} {Q : State → Prop} {M : Mem} {R : Room} {q hv ed s9 n9 x m0 : Nat} {o : Wo} {z9 : Int} (F : CallFix p m c cX12_flattens 6 s args TB RX12) (hR1 : 2 ≤ R.frames) (hR2 : 42 ≤ R.locals) (hs9 : s9 < q) (hx01 : x = 0 ∨ x = 1) (hn9 : 1 ≤ n9) (hn99 : n9 ≤ 9) (hm0 : pop m0 ≤ 12) (kk : ∀ (i : Nat) (ms : Nat) (Nm : Mem) (L1 : Nat → Nat) (H : Heap) (locs : List Loc) (ls : Array Slot), (flR x s9 (pop m0 - n9) m0 o.2.2 = L1) → (RW Nm q hv ed (o.1, o.2.1, L1) (z9 + ((pop m0 - n9 : Nat) : Int))) → (FrC Nm M) → Wd D B cy s H0 Nm H locs → lv_has ls 6 [(0, .ref (B + 146))] → W p l e R s m args below meth c H locs 0 0 Q (F0 m 59 ls [])) : ∀ (f : Nat) (i : Nat) (ms : Nat) (Nm : Mem) (L1 : Nat → Nat), (i ≤ pop m0 - n9) → (ms < 4096) → (pop ms + i = pop m0) → (∀ j, ms.testBit j = true → j < o.1) → (flI x s9 (pop m0 - n9) i ms o.2.2 L1 m0) → (RW Nm q hv ed (o.1, o.2.1, L1) (z9 + (i : Int))) → (FrC Nm M) → (pop m0 - n9 ≤ i + f) → ∀ (H : Heap) (locs : List Loc) (ls : Array Slot), Wd D B cy s H0 Nm H locs → lv_has ls 6 [(4, .int (zI (ms : Int))), (0, .ref (B + 146)), (1, .int (zI (s9 : Int))), (2, .int (zI (n9 : Int))), (3, .int (zI (x : Int)))] → W p l e R s m args below meth c H locs 0 0 Q (F0 m 10 ls []) := by
  have hx := F.1
  have hb := F.2.1
  intro f
  induction f with
  | zero =>
    intro i ms Nm L1 i0 i1 i2 i3 i4 i5 i6 hf H locs ls w hl
    have hW1 := i5.1
    have hwf1 := i5.wf
    have hKL1 := hwf1.2.2.2.2
    have hn1 : o.1 ≤ 12 := hwf1.1
    have hq1 := hwf1.2.1
    have hc1 := i5.2.2.2.2
    refine lv_iload hx hb wdX12_flattens_10 (lv_at hl 0 rfl) ?_
    refine x_Si F w (As := [.int (zI (ms : Int))]) (rest := []) (s_X12_bitsOf (m9 := ms) (by omega)) wgs_X12_76 whs_X12_bitsOf ⟨(by omega), (by omega)⟩ hl.1 rfl (Nat.le_of_ble_eq_true rfl) ⟨Nat.zero_le _, Nat.zero_le _⟩ wdX12_flattens_12 (fun H locs w => ?_)
    have hp0 := (pop_le ms (by omega)).1
    refine lv_iload_n hx hb wdX12_flattens_15 rfl (lv_at hl 3 rfl) ?_
    refine z_icmp_le (tgt := 59) hx hb (by omega) (by omega) wdX12_flattens_16 (by decide) (fun c2 => ?_) (fun c2 => False.elim (by omega))
    exact kk i ms Nm L1 _ _ ls (flI_e i4 (by omega)) (i5.e rfl (by omega)) i6 w (lv_sub hl [1] rfl)
  | succ f ih =>
    intro i ms Nm L1 i0 i1 i2 i3 i4 i5 i6 hf H locs ls w hl
    have hW1 := i5.1
    have hwf1 := i5.wf
    have hKL1 := hwf1.2.2.2.2
    have hn1 : o.1 ≤ 12 := hwf1.1
    have hq1 := hwf1.2.1
    have hc1 := i5.2.2.2.2
    refine lv_iload hx hb wdX12_flattens_10 (lv_at hl 0 rfl) ?_
    refine x_Si F w (As := [.int (zI (ms : Int))]) (rest := []) (s_X12_bitsOf (m9 := ms) (by omega)) wgs_X12_76 whs_X12_bitsOf ⟨(by omega), (by omega)⟩ hl.1 rfl (Nat.le_of_ble_eq_true rfl) ⟨Nat.zero_le _, Nat.zero_le _⟩ wdX12_flattens_12 (fun H locs w => ?_)
    have hp0 := (pop_le ms (by omega)).1
    refine lv_iload_n hx hb wdX12_flattens_15 rfl (lv_at hl 3 rfl) ?_
    refine z_icmp_le (tgt := 59) hx hb (by omega) (by omega) wdX12_flattens_16 (by decide) (fun c2 => ?_) (fun c2 => ?_)
    · exact kk i ms Nm L1 _ _ ls (flI_e i4 (by omega)) (i5.e rfl (by omega)) i6 w (lv_sub hl [1] rfl)
    · refine lv_iload_n hx hb wdX12_flattens_19 rfl (lv_at hl 4 rfl) ?_
      refine z_if_eq (tgt := 31) hx hb (by omega) wdX12_flattens_20 (by decide) (fun c3 => ?_) (fun c3 => ?_)
      · refine lv_iload hx hb wdX12_flattens_31 (lv_at hl 0 rfl) ?_
        refine x_Si F w (As := [.int (zI (ms : Int))]) (rest := []) (s_X12_firstOf (m9 := ms) (by omega)) wgs_X12_63 whs_X12_firstOf ⟨(by omega), (by omega)⟩ hl.1 rfl (Nat.le_of_ble_eq_true rfl) ⟨Nat.zero_le _, Nat.zero_le _⟩ wdX12_flattens_33 (fun H locs w => ?_)
        have hw3 := lowI_rg ms (by omega)
        have hmz : ms ≠ 0 := fun h9 => by have h8 : pop ms = 0 := (congrArg pop h9).trans rfl; omega
        refine r_val (v := zI ((fex x ms : Nat) : Int)) (congrArg zI (fex_l (by omega) hmz)) ?_
        have hfx := fex_t (x := x) i1 hmz
        have hfn := i3 _ hfx.1
        refine lv_istore (lv' := [(5, .int (zI (((fex x ms) : Nat) : Int))), (4, .int (zI (ms : Int))), (0, .ref (B + 146)), (1, .int (zI (s9 : Int))), (2, .int (zI (n9 : Int))), (3, .int (zI (x : Int)))]) hx hb wdX12_flattens_36 hl (by decide) rfl (fun ls hl => ?_)
        refine lv_aload_n hx hb wdX12_flattens_38 rfl (lv_at hl 2 rfl) ?_
        refine lv_iload hx hb wdX12_flattens_39 (lv_at hl 0 rfl) ?_
        refine lv_iload_n hx hb wdX12_flattens_41 rfl (lv_at hl 3 rfl) ?_
        refine k_Vv F w (As := [.int (zI (((fex x ms) : Nat) : Int)), .int (zI (s9 : Int))]) (rest := []) (a := 146) (kd_lt (a := 146) (show kd 146 = (12, 0, 0) from rfl) (by decide)) (sh_12 rfl _ _) rfl (s_X12_goes hW1 hwf1 hc1 (t := (fex x ms)) (j := s9) (by omega) (by omega)) wgv_X12_102 whv_X12_goes ⟨(by omega), (by omega)⟩ hl.1 rfl (Nat.le_of_ble_eq_true rfl) ⟨Nat.zero_le _, Nat.zero_le _⟩ wdX12_flattens_42 (fun Ma5 H locs hp w => ?_)
        rcases hp with ⟨hW2, hc2, hF2⟩
        refine lv_iload hx hb wdX12_flattens_45 (lv_at hl 1 rfl) ?_
        refine lv_iconst (v := zI 1) hx hb wdX12_flattens_47 rfl ?_
        refine lv_iload hx hb wdX12_flattens_48 (lv_at hl 0 rfl) ?_
        refine lv_ishl hx hb wdX12_flattens_50 ?_
        refine r_val (v := (zI (((2 ^ (fex x ms)) : Nat) : Int))) (zb_shl (n := (fex x ms)) (by omega)) ?_
        have q6 := p2_b (n := (fex x ms)) (by omega)
        refine lv_iconst (v := zI (-1)) hx hb wdX12_flattens_51 rfl ?_
        refine lv_ixor hx hb wdX12_flattens_52 ?_
        refine lv_iand hx hb wdX12_flattens_53 ?_
        refine r_val (v := (zI (((andn ms (2 ^ (fex x ms))) : Nat) : Int))) (zb_andn _ _) ?_
        have q8 := andn_le ms (2 ^ (fex x ms))
        refine lv_istore (lv' := [(4, .int (zI (((andn ms (2 ^ (fex x ms))) : Nat) : Int))), (5, .int (zI (((fex x ms) : Nat) : Int))), (0, .ref (B + 146)), (1, .int (zI (s9 : Int))), (2, .int (zI (n9 : Int))), (3, .int (zI (x : Int)))]) hx hb wdX12_flattens_54 hl (by decide) rfl (fun ls hl => ?_)
        refine lv_goto (tgt := 10) hx hb wdX12_flattens_56 (by decide) ?_
        exact ih (i + 1) (andn ms (2 ^ fex x ms)) Ma5 (updF L1 (fex x ms) (andn (L1 (fex x ms)) (2 ^ s9))) (by omega) (by have h9 := andn_le ms (2 ^ fex x ms); omega) (by have h9 := pop_fex (x := x) i1 hmz; omega) (fl_bit i3) (flI_s i4 (by omega)) ⟨hW2, okW_line (o := (o.1, o.2.1, L1)) i5.2.1 (andn_lt (i5.2.1.2.2 (fex x ms) hfn).2), i5.2.2.1, i5.2.2.2.1, hc2.trans (congrArg zI (by omega))⟩ (FrC.tr i6 hF2) (by omega) _ _ ls w (lv_sub hl [0, 2, 3, 4, 5] rfl)
      · refine lv_iload hx hb wdX12_flattens_23 (lv_at hl 0 rfl) ?_
        refine x_Si F w (As := [.int (zI (ms : Int))]) (rest := []) (s_X12_lastOf (m9 := ms) (by omega)) wgs_X12_59 whs_X12_lastOf ⟨(by omega), (by omega)⟩ hl.1 rfl (Nat.le_of_ble_eq_true rfl) ⟨Nat.zero_le _, Nat.zero_le _⟩ wdX12_flattens_25 (fun H locs w => ?_)
        have hw8 := higI_rg ms (by omega)
        have hmz : ms ≠ 0 := fun h9 => by have h8 : pop ms = 0 := (congrArg pop h9).trans rfl; omega
        refine r_val (v := zI ((fex x ms : Nat) : Int)) (congrArg zI (fex_h (by omega) hx01 hmz)) ?_
        have hfx := fex_t (x := x) i1 hmz
        have hfn := i3 _ hfx.1
        refine lv_goto (tgt := 36) hx hb wdX12_flattens_28 (by decide) ?_
        refine lv_istore (lv' := [(5, .int (zI (((fex x ms) : Nat) : Int))), (4, .int (zI (ms : Int))), (0, .ref (B + 146)), (1, .int (zI (s9 : Int))), (2, .int (zI (n9 : Int))), (3, .int (zI (x : Int)))]) hx hb wdX12_flattens_36 hl (by decide) rfl (fun ls hl => ?_)
        refine lv_aload_n hx hb wdX12_flattens_38 rfl (lv_at hl 2 rfl) ?_
        refine lv_iload hx hb wdX12_flattens_39 (lv_at hl 0 rfl) ?_
        refine lv_iload_n hx hb wdX12_flattens_41 rfl (lv_at hl 3 rfl) ?_
        refine k_Vv F w (As := [.int (zI (((fex x ms) : Nat) : Int)), .int (zI (s9 : Int))]) (rest := []) (a := 146) (kd_lt (a := 146) (show kd 146 = (12, 0, 0) from rfl) (by decide)) (sh_12 rfl _ _) rfl (s_X12_goes hW1 hwf1 hc1 (t := (fex x ms)) (j := s9) (by omega) (by omega)) wgv_X12_102 whv_X12_goes ⟨(by omega), (by omega)⟩ hl.1 rfl (Nat.le_of_ble_eq_true rfl) ⟨Nat.zero_le _, Nat.zero_le _⟩ wdX12_flattens_42 (fun Ma10 H locs hp w => ?_)
        rcases hp with ⟨hW2, hc2, hF2⟩
        refine lv_iload hx hb wdX12_flattens_45 (lv_at hl 1 rfl) ?_
        refine lv_iconst (v := zI 1) hx hb wdX12_flattens_47 rfl ?_
        refine lv_iload hx hb wdX12_flattens_48 (lv_at hl 0 rfl) ?_
        refine lv_ishl hx hb wdX12_flattens_50 ?_
        refine r_val (v := (zI (((2 ^ (fex x ms)) : Nat) : Int))) (zb_shl (n := (fex x ms)) (by omega)) ?_
        have q11 := p2_b (n := (fex x ms)) (by omega)
        refine lv_iconst (v := zI (-1)) hx hb wdX12_flattens_51 rfl ?_
        refine lv_ixor hx hb wdX12_flattens_52 ?_
        refine lv_iand hx hb wdX12_flattens_53 ?_
        refine r_val (v := (zI (((andn ms (2 ^ (fex x ms))) : Nat) : Int))) (zb_andn _ _) ?_
        have q13 := andn_le ms (2 ^ (fex x ms))
        refine lv_istore (lv' := [(4, .int (zI (((andn ms (2 ^ (fex x ms))) : Nat) : Int))), (5, .int (zI (((fex x ms) : Nat) : Int))), (0, .ref (B + 146)), (1, .int (zI (s9 : Int))), (2, .int (zI (n9 : Int))), (3, .int (zI (x : Int)))]) hx hb wdX12_flattens_54 hl (by decide) rfl (fun ls hl => ?_)
        refine lv_goto (tgt := 10) hx hb wdX12_flattens_56 (by decide) ?_
        exact ih (i + 1) (andn ms (2 ^ fex x ms)) Ma10 (updF L1 (fex x ms) (andn (L1 (fex x ms)) (2 ^ s9))) (by omega) (by have h9 := andn_le ms (2 ^ fex x ms); omega) (by have h9 := pop_fex (x := x) i1 hmz; omega) (fl_bit i3) (flI_s i4 (by omega)) ⟨hW2, okW_line (o := (o.1, o.2.1, L1)) i5.2.1 (andn_lt (i5.2.1.2.2 (fex x ms) hfn).2), i5.2.2.1, i5.2.2.2.1, hc2.trans (congrArg zI (by omega))⟩ (FrC.tr i6 hF2) (by omega) _ _ ls w (lv_sub hl [0, 2, 3, 4, 5] rfl)
theorem wdX12_flattens_0 : decode cX12_flattens 0 = .ok (.aload_n 0, 1) := dq0 kk_42 (by decide +kernel)
theorem wdX12_flattens_1 : decode cX12_flattens 1 = .ok (.getfield 17, 3) := dqV kk_180 (by decide +kernel)
theorem wdX12_flattens_4 : decode cX12_flattens 4 = .ok (.iload_n 1, 1) := dq0 kk_27 (by decide +kernel)
theorem wdX12_flattens_5 : decode cX12_flattens 5 = .ok (.invokestatic 69, 3) := dqV kk_184 (by decide +kernel)
theorem wtk_X12_tonesOf : Cond.code yX12_tonesOf cX12_tonesOf 4 (some .int) ∈ TB := tk_X12_tonesOf
theorem wgc_X12_tonesOf : GoodIn TB (cw yX12_tonesOf cX12_tonesOf 4 (some .int)) := goodIn_c2 wtk_X12_tonesOf
theorem wtb_131 : Cond.methodLink "ToneLinesModel" 69 yX12_tonesOf ∈ TB := tb_47
theorem wtb_132 : Cond.static yX12_tonesOf ∈ TB := tb_48
theorem wgs_X12_69 : GoodIn TB (va_wsS RX12 69 yX12_tonesOf (cw yX12_tonesOf cX12_tonesOf 4 (some .int))) := goodIn_3 wtb_131 wtb_132 wtb_105 wgc_X12_tonesOf
theorem whs_X12_tonesOf : yX12_tonesOf.cls ≠ "java/lang/invoke/MethodHandle" ∧ yX12_tonesOf.cls ≠ "java/lang/invoke/VarHandle" ∧ (parseMethodDescriptor yX12_tonesOf.desc).map (fun d => d.parameters.length) = some 2 := hs_X12_tonesOf
theorem wdX12_flattens_8 : decode cX12_flattens 8 = .ok (.istore 4, 2) := dqU kk_54 (by decide +kernel)
theorem wdX12_flattens_59 : decode cX12_flattens 59 = .ok (.return_, 1) := dq0 kk_177 (by decide +kernel)
set_option maxRecDepth 4000 in
theorem s_X12_flattens {l : Launch} {D : va_G} {B : Nat} {cy : Nat → ClassId} {M : Mem} {q hv ed : Nat} {o : Wo} {z9 : Int} (hR : RW M q hv ed o z9) {s9 n9 x : Nat} (hs9 : s9 < q) (hx01 : x = 0 ∨ x = 1) (hn9 : 1 ≤ n9) (hn99 : n9 ≤ 9) : Cv l D B cy yX12_flattens cX12_flattens 6 2 44 [.ref (B + 146), .int (zI (s9 : Int)), .int (zI (n9 : Int)), .int (zI (x : Int))] M (fun M1 => RQ q hv ed (flS x n9 s9 o) 12 z9 M M1) := by
  refine s_any (by decide) (Nat.le_of_ble_eq_true rfl) ?_
  intro p e s m below meth c ls F hr hlocks w hl
  have F : CallFix p m c cX12_flattens 6 s _ TB RX12 := F
  have hx := F.1
  have hb := F.2.1
  have hl : lv_has ls 6 [(0, .ref (B + 146)), (1, .int (zI (s9 : Int))), (2, .int (zI (n9 : Int))), (3, .int (zI (x : Int)))] := hl
  have hW := hR.1
  have hwf := hR.wf
  have hKL := hwf.2.2.2.2
  have hn12 := hwf.1
  have hq12 := hwf.2.1
  have hhv := hwf.2.2.1
  have hed := hwf.2.2.2.1
  have hc := hR.2.2.2.2
  refine lv_aload_n hx hb wdX12_flattens_0 rfl (lv_at hl 0 rfl) ?_
  refine f_12_2 F w (a := 146) rfl wtb_102 wdX12_flattens_1 ?_
  refine lv_iload_n hx hb wdX12_flattens_4 rfl (lv_at hl 1 rfl) ?_
  refine x_Si F w (As := [.ref (B + 148), .int (zI (s9 : Int))]) (rest := []) (s_X12_tonesOf (a := 148) rfl hW hwf (j := s9) (by omega)) wgs_X12_69 whs_X12_tonesOf ⟨(Nat.le_of_ble_eq_true rfl), (Nat.le_of_ble_eq_true rfl)⟩ hl.1 rfl (Nat.le_of_ble_eq_true rfl) ⟨Nat.zero_le _, Nat.zero_le _⟩ wdX12_flattens_5 (fun H locs w => ?_)
  have hm0 := tmk_lt (L := o.2.2) (j := s9) (n := o.1) (by omega)
  refine lv_istore (lv' := [(4, .int (zI (((tmk o.2.2 s9 o.1) : Nat) : Int))), (0, .ref (B + 146)), (1, .int (zI (s9 : Int))), (2, .int (zI (n9 : Int))), (3, .int (zI (x : Int)))]) hx hb wdX12_flattens_8 hl (by decide) rfl (fun ls hl => ?_)
  have hpm := (pop_le (tmk o.2.2 s9 o.1) (by omega)).1
  refine lp_X12_flattens (o := o) (n9 := n9) (m0 := tmk o.2.2 s9 o.1) (z9 := z9) F (Nat.le_of_ble_eq_true rfl) (Nat.le_of_ble_eq_true rfl) hs9 hx01 hn9 hn99 hpm (fun i ms Nm L1 H locs ls x0 x1 x2 w hl => ?_) 12 0 (tmk o.2.2 s9 o.1) M o.2.2 (by omega) (by omega) (by omega) tmk_in flI_0 (hR.e rfl (by omega)) FrC.rf (by omega) _ _ ls w (lv_sub hl [0, 1, 2, 3, 4] rfl)
  exact e_v F w hr hlocks ⟨_, _, flS_of x0, x1, x2, by omega⟩ wdX12_flattens_59
theorem wdX12_fills_25 : decode cX12_fills 25 = .ok (.iload 4, 2) := dqU kk_21 (by decide +kernel)
theorem wdX12_fills_27 : decode cX12_fills 27 = .ok (.aload_n 0, 1) := dq0 kk_42 (by decide +kernel)
theorem wdX12_fills_28 : decode cX12_fills 28 = .ok (.getfield 17, 3) := dqV kk_180 (by decide +kernel)
theorem wdX12_fills_31 : decode cX12_fills 31 = .ok (.iconst 0, 1) := dq0 kk_3 (by decide +kernel)
theorem wdX12_fills_32 : decode cX12_fills 32 = .ok (.iaload, 1) := dq0 kk_46 (by decide +kernel)
theorem wdX12_fills_33 : decode cX12_fills 33 = .ok (.if_icmp .ge 33, 3) := dqT kk_162 (by decide +kernel)
theorem wdX12_fills_36 : decode cX12_fills 36 = .ok (.aload_n 0, 1) := dq0 kk_42 (by decide +kernel)
theorem wdX12_fills_37 : decode cX12_fills 37 = .ok (.getfield 17, 3) := dqV kk_180 (by decide +kernel)
theorem wdX12_fills_40 : decode cX12_fills 40 = .ok (.bipush 13, 2) := dqS kk_16 (by decide +kernel)
theorem wdX12_fills_42 : decode cX12_fills 42 = .ok (.iload 4, 2) := dqU kk_21 (by decide +kernel)
theorem wdX12_fills_44 : decode cX12_fills 44 = .ok (.iadd, 1) := dq0 kk_96 (by decide +kernel)
theorem wdX12_fills_45 : decode cX12_fills 45 = .ok (.iaload, 1) := dq0 kk_46 (by decide +kernel)
theorem wdX12_fills_46 : decode cX12_fills 46 = .ok (.iconst 1, 1) := dq0 kk_4 (by decide +kernel)
theorem wdX12_fills_47 : decode cX12_fills 47 = .ok (.iload_n 1, 1) := dq0 kk_27 (by decide +kernel)
theorem wdX12_fills_48 : decode cX12_fills 48 = .ok (.ishl, 1) := dq0 kk_120 (by decide +kernel)
theorem wdX12_fills_49 : decode cX12_fills 49 = .ok (.iconst 1, 1) := dq0 kk_4 (by decide +kernel)
theorem wdX12_fills_50 : decode cX12_fills 50 = .ok (.isub, 1) := dq0 kk_100 (by decide +kernel)
theorem wdX12_fills_51 : decode cX12_fills 51 = .ok (.iand, 1) := dq0 kk_126 (by decide +kernel)
theorem wdX12_fills_52 : decode cX12_fills 52 = .ok (.ifCond .eq 8, 3) := dqT kk_153 (by decide +kernel)
theorem wdX12_fills_60 : decode cX12_fills 60 = .ok (.iinc 4 1, 3) := dqI kk_132 (by decide +kernel)
theorem wdX12_fills_63 : decode cX12_fills 63 = .ok (.goto (-38), 3) := dqT kk_167 (by decide +kernel)
theorem wdX12_fills_55 : decode cX12_fills 55 = .ok (.iload 4, 2) := dqU kk_21 (by decide +kernel)
theorem wdX12_fills_57 : decode cX12_fills 57 = .ok (.iconst 1, 1) := dq0 kk_4 (by decide +kernel)
theorem wdX12_fills_58 : decode cX12_fills 58 = .ok (.iadd, 1) := dq0 kk_96 (by decide +kernel)
theorem wdX12_fills_59 : decode cX12_fills 59 = .ok (.istore_n 3, 1) := dq0 kk_62 (by decide +kernel)
set_option maxRecDepth 4000 in
theorem lp_X12_fills {p : Program} {l : Launch} {e : Env} {s : State} {m : MethodId} {args : Array Value} {below : List Frame} {meth : Method} {c : Code} {D : va_G} {B : Nat} {cy : Nat → ClassId} {H0 : Heap} {Q : State → Prop} {M : Mem} {R : Room} {q hv ed s9 kn : Nat} {o : Wo} {z9 : Int} (F : CallFix p m c cX12_fills 5 s args TB RX12) (hR1 : 0 ≤ R.frames) (hR2 : 0 ≤ R.locals) (hR : RW M q hv ed o z9) (hs9 : s9 < 12) (kk : ∀ (t : Nat) (H : Heap) (locs : List Loc) (ls : Array Slot), (t = o.1) → Wd D B cy s H0 M H locs → lv_has ls 5 [(4, .int (zI (t : Int))), (3, .int (zI (((plF o.2.2 s9 t) : Nat) : Int))), (0, .ref (B + 146)), (1, .int (zI (s9 : Int))), (2, .int (zI (kn : Int)))] → W p l e R s m args below meth c H locs 0 0 Q (F0 m 66 ls [])) : ∀ (f : Nat) (t : Nat), (t ≤ o.1) → (o.1 ≤ t + f) → ∀ (H : Heap) (locs : List Loc) (ls : Array Slot), Wd D B cy s H0 M H locs → lv_has ls 5 [(4, .int (zI (t : Int))), (3, .int (zI (((plF o.2.2 s9 t) : Nat) : Int))), (0, .ref (B + 146)), (1, .int (zI (s9 : Int))), (2, .int (zI (kn : Int)))] → W p l e R s m args below meth c H locs 0 0 Q (F0 m 25 ls []) := by
  have hx := F.1
  have hb := F.2.1
  have hW := hR.1
  have hwf := hR.wf
  have hKL := hwf.2.2.2.2
  have hn12 := hwf.1
  have hq12 := hwf.2.1
  have hhv := hwf.2.2.1
  have hed := hwf.2.2.2.1
  have hc := hR.2.2.2.2
  intro f
  induction f with
  | zero =>
    intro t i0 hf H locs ls w hl
    have hpl := plF_le (L := o.2.2) (s9 := s9) t
    refine lv_iload hx hb wdX12_fills_25 (lv_at hl 0 rfl) ?_
    refine lv_aload_n hx hb wdX12_fills_27 rfl (lv_at hl 2 rfl) ?_
    refine f_12_2 F w (a := 146) rfl wtb_102 wdX12_fills_28 ?_
    refine lv_iconst (v := zI 0) hx hb wdX12_fills_31 rfl ?_
    refine g_iald F w (a := 148) rfl (j := 0) ⟨by decide, by decide⟩ (by omega) wdX12_fills_32 ?_
    refine r_val (v := (zI ((o.1 : Nat) : Int))) (hW.1) ?_
    refine z_icmp_ge (tgt := 66) hx hb (by omega) (by omega) wdX12_fills_33 (by decide) (fun c1 => ?_) (fun c1 => False.elim (by omega))
    exact kk t _ _ ls (by omega) w (lv_sub hl [0, 1, 2, 3, 4] rfl)
  | succ f ih =>
    intro t i0 hf H locs ls w hl
    have hpl := plF_le (L := o.2.2) (s9 := s9) t
    refine lv_iload hx hb wdX12_fills_25 (lv_at hl 0 rfl) ?_
    refine lv_aload_n hx hb wdX12_fills_27 rfl (lv_at hl 2 rfl) ?_
    refine f_12_2 F w (a := 146) rfl wtb_102 wdX12_fills_28 ?_
    refine lv_iconst (v := zI 0) hx hb wdX12_fills_31 rfl ?_
    refine g_iald F w (a := 148) rfl (j := 0) ⟨by decide, by decide⟩ (by omega) wdX12_fills_32 ?_
    refine r_val (v := (zI ((o.1 : Nat) : Int))) (hW.1) ?_
    refine z_icmp_ge (tgt := 66) hx hb (by omega) (by omega) wdX12_fills_33 (by decide) (fun c1 => ?_) (fun c1 => ?_)
    · exact kk t _ _ ls (by omega) w (lv_sub hl [0, 1, 2, 3, 4] rfl)
    · refine lv_aload_n hx hb wdX12_fills_36 rfl (lv_at hl 2 rfl) ?_
      refine f_12_2 F w (a := 146) rfl wtb_102 wdX12_fills_37 ?_
      refine lv_bipush (v := zI 13) hx hb wdX12_fills_40 (by decide) ?_
      refine lv_iload hx hb wdX12_fills_42 (lv_at hl 0 rfl) ?_
      refine z_iadd (z := (((13 + t) : Nat) : Int)) hx hb wdX12_fills_44 (by omega) ?_
      refine g_iald F w (a := 148) rfl (j := (13 + t)) (ix_n (by omega)) (by omega) wdX12_fills_45 ?_
      have hL1 := (hKL t (by omega)).2
      refine r_val (v := (zI (((o.2.2 t) : Nat) : Int))) (hW.2.2.2.2.2 t (by omega)) ?_
      refine lv_iconst (v := zI 1) hx hb wdX12_fills_46 rfl ?_
      refine lv_iload_n hx hb wdX12_fills_47 rfl (lv_at hl 3 rfl) ?_
      refine lv_ishl hx hb wdX12_fills_48 ?_
      refine r_val (v := (zI (((2 ^ s9) : Nat) : Int))) (zb_shl (n := s9) (by omega)) ?_
      have q2 := p2_b (n := s9) (by omega)
      refine lv_iconst (v := zI 1) hx hb wdX12_fills_49 rfl ?_
      refine z_isub (z := ((((2 ^ s9) - 1) : Nat) : Int)) hx hb wdX12_fills_50 (by omega) ?_
      refine lv_iand hx hb wdX12_fills_51 ?_
      refine r_val (v := (zI ((((o.2.2 t) &&& ((2 ^ s9) - 1)) : Nat) : Int))) (zb_and (o.2.2 t) ((2 ^ s9) - 1)) ?_
      have q3 := (Nat.and_le_left : (o.2.2 t) &&& ((2 ^ s9) - 1) ≤ _)
      refine z_if_eq (tgt := 60) hx hb (by omega) wdX12_fills_52 (by decide) (fun c4 => ?_) (fun c4 => ?_)
      · refine z_iinc (v := (((t + 1) : Nat) : Int)) (lv' := [(4, .int (zI (((t + 1) : Nat) : Int))), (3, .int (zI (((plF o.2.2 s9 t) : Nat) : Int))), (0, .ref (B + 146)), (1, .int (zI (s9 : Int))), (2, .int (zI (kn : Int)))]) hx hb wdX12_fills_60 hl (k := 0) rfl (by omega) (by decide) rfl (fun ls hl => ?_)
        refine lv_goto (tgt := 25) hx hb wdX12_fills_63 (by decide) ?_
        rw [plF_0 (by omega)] at hl
        exact ih (t + 1) (by omega) (by omega) _ _ ls w (lv_sub hl [0, 1, 2, 3, 4] rfl)
      · refine lv_iload hx hb wdX12_fills_55 (lv_at hl 0 rfl) ?_
        refine lv_iconst (v := zI 1) hx hb wdX12_fills_57 rfl ?_
        refine z_iadd (z := (((t + 1) : Nat) : Int)) hx hb wdX12_fills_58 (by omega) ?_
        refine r_val (v := zI ((plF o.2.2 s9 (t + 1) : Nat) : Int)) (congrArg zI (congrArg (fun q9 : Nat => (q9 : Int)) (plF_1 (by omega)))) ?_
        refine lv_istore_n (lv' := [(3, .int (zI (((plF o.2.2 s9 (t + 1)) : Nat) : Int))), (4, .int (zI (t : Int))), (0, .ref (B + 146)), (1, .int (zI (s9 : Int))), (2, .int (zI (kn : Int)))]) hx hb wdX12_fills_59 rfl hl (by decide) rfl (fun ls hl => ?_)
        refine z_iinc (v := (((t + 1) : Nat) : Int)) (lv' := [(4, .int (zI (((t + 1) : Nat) : Int))), (3, .int (zI (((plF o.2.2 s9 (t + 1)) : Nat) : Int))), (0, .ref (B + 146)), (1, .int (zI (s9 : Int))), (2, .int (zI (kn : Int)))]) hx hb wdX12_fills_60 hl (k := 1) rfl (by omega) (by decide) rfl (fun ls hl => ?_)
        refine lv_goto (tgt := 25) hx hb wdX12_fills_63 (by decide) ?_
        exact ih (t + 1) (by omega) (by omega) _ _ ls w (lv_sub hl [0, 1, 2, 3, 4] rfl)
theorem wdX12_fills_0 : decode cX12_fills 0 = .ok (.aload_n 0, 1) := dq0 kk_42 (by decide +kernel)
theorem wdX12_fills_1 : decode cX12_fills 1 = .ok (.iload_n 1, 1) := dq0 kk_27 (by decide +kernel)
theorem wdX12_fills_2 : decode cX12_fills 2 = .ok (.invokevirtual 82, 3) := dqV kk_182 (by decide +kernel)
theorem wtk_X12_isBare : Cond.code yX12_isBare cX12_isBare 2 (some .boolean) ∈ TB := tk_X12_isBare
theorem wgc_X12_isBare : GoodIn TB (cw yX12_isBare cX12_isBare 2 (some .boolean)) := goodIn_c2 wtk_X12_isBare
theorem wtb_133 : Cond.methodLink "ToneLinesModel" 82 yX12_isBare ∈ TB := tb_59
theorem wtb_134 : Cond.instanceMethod yX12_isBare ∈ TB := tb_60
theorem wtb_135 : Cond.selects "ToneLinesModel" yX12_isBare yX12_isBare ∈ TB := tb_61
theorem wgv_X12_82 : GoodIn TB (wsV RX12 82 RX12 yX12_isBare (cw yX12_isBare cX12_isBare 2 (some .boolean))) := goodIn_4 wtb_133 wtb_134 wtb_135 wtb_105 wgc_X12_isBare
theorem whv_X12_isBare : yX12_isBare.cls = RX12 ∧ yX12_isBare.cls ≠ "java/lang/invoke/MethodHandle" ∧ yX12_isBare.cls ≠ "java/lang/invoke/VarHandle" ∧ (parseMethodDescriptor yX12_isBare.desc).map (fun d => d.parameters.length) = some 1 := hv_X12_isBare
theorem wdX12_fills_5 : decode cX12_fills 5 = .ok (.ifCond .eq 14, 3) := dqT kk_153 (by decide +kernel)
theorem wdX12_fills_8 : decode cX12_fills 8 = .ok (.aload_n 0, 1) := dq0 kk_42 (by decide +kernel)
theorem wdX12_fills_9 : decode cX12_fills 9 = .ok (.getfield 17, 3) := dqV kk_180 (by decide +kernel)
theorem wdX12_fills_12 : decode cX12_fills 12 = .ok (.iconst 0, 1) := dq0 kk_3 (by decide +kernel)
theorem wdX12_fills_13 : decode cX12_fills 13 = .ok (.iaload, 1) := dq0 kk_46 (by decide +kernel)
theorem wdX12_fills_14 : decode cX12_fills 14 = .ok (.bipush 12, 2) := dqS kk_16 (by decide +kernel)
theorem wdX12_fills_16 : decode cX12_fills 16 = .ok (.if_icmp .ne 4, 3) := dqT kk_160 (by decide +kernel)
theorem wdX12_fills_20 : decode cX12_fills 20 = .ok (.iconst 0, 1) := dq0 kk_3 (by decide +kernel)
theorem wdX12_fills_21 : decode cX12_fills 21 = .ok (.istore_n 3, 1) := dq0 kk_62 (by decide +kernel)
theorem wdX12_fills_22 : decode cX12_fills 22 = .ok (.iconst 0, 1) := dq0 kk_3 (by decide +kernel)
theorem wdX12_fills_23 : decode cX12_fills 23 = .ok (.istore 4, 2) := dqU kk_54 (by decide +kernel)
theorem wdX12_fills_66 : decode cX12_fills 66 = .ok (.aload_n 0, 1) := dq0 kk_42 (by decide +kernel)
theorem wdX12_fills_67 : decode cX12_fills 67 = .ok (.getfield 17, 3) := dqV kk_180 (by decide +kernel)
theorem wdX12_fills_70 : decode cX12_fills 70 = .ok (.iload_n 3, 1) := dq0 kk_29 (by decide +kernel)
theorem wdX12_fills_71 : decode cX12_fills 71 = .ok (.iload_n 2, 1) := dq0 kk_28 (by decide +kernel)
theorem wdX12_fills_72 : decode cX12_fills 72 = .ok (.invokestatic 112, 3) := dqV kk_184 (by decide +kernel)
theorem wtk_X12_insert : Cond.code yX12_insert cX12_insert 4 none ∈ TB := tbm (tc5 (List.mem_of_getElem? (i := 167) rfl)) rfl
theorem wgc_X12_insert : GoodIn TB (cw yX12_insert cX12_insert 4 none) := goodIn_c2 wtk_X12_insert
theorem wtb_136 : Cond.methodLink "ToneLinesModel" 112 yX12_insert ∈ TB := tbm (tc5 (List.mem_of_getElem? (i := 165) rfl)) rfl
theorem wtb_137 : Cond.static yX12_insert ∈ TB := tbm (tc5 (List.mem_of_getElem? (i := 166) rfl)) rfl
theorem wgs_X12_112 : GoodIn TB (va_wsS RX12 112 yX12_insert (cw yX12_insert cX12_insert 4 none)) := goodIn_3 wtb_136 wtb_137 wtb_105 wgc_X12_insert
theorem whs_X12_insert : yX12_insert.cls ≠ "java/lang/invoke/MethodHandle" ∧ yX12_insert.cls ≠ "java/lang/invoke/VarHandle" ∧ (parseMethodDescriptor yX12_insert.desc).map (fun d => d.parameters.length) = some 3 := by decide +kernel
theorem wdX12_fills_75 : decode cX12_fills 75 = .ok (.aload_n 0, 1) := dq0 kk_42 (by decide +kernel)
theorem wdX12_fills_76 : decode cX12_fills 76 = .ok (.getfield 17, 3) := dqV kk_180 (by decide +kernel)
theorem wdX12_fills_79 : decode cX12_fills 79 = .ok (.iload_n 3, 1) := dq0 kk_29 (by decide +kernel)
theorem wdX12_fills_80 : decode cX12_fills 80 = .ok (.iload_n 1, 1) := dq0 kk_27 (by decide +kernel)
theorem wdX12_fills_81 : decode cX12_fills 81 = .ok (.invokestatic 86, 3) := dqV kk_184 (by decide +kernel)
theorem wdX12_fills_84 : decode cX12_fills 84 = .ok (.ifCond .eq 22, 3) := dqT kk_153 (by decide +kernel)
theorem wdX12_fills_87 : decode cX12_fills 87 = .ok (.aload_n 0, 1) := dq0 kk_42 (by decide +kernel)
theorem wdX12_fills_88 : decode cX12_fills 88 = .ok (.iload_n 3, 1) := dq0 kk_29 (by decide +kernel)
theorem wdX12_fills_89 : decode cX12_fills 89 = .ok (.iload_n 1, 1) := dq0 kk_27 (by decide +kernel)
theorem wdX12_fills_90 : decode cX12_fills 90 = .ok (.invokevirtual 90, 3) := dqV kk_182 (by decide +kernel)
theorem wdX12_fills_93 : decode cX12_fills 93 = .ok (.aload_n 0, 1) := dq0 kk_42 (by decide +kernel)
theorem wdX12_fills_94 : decode cX12_fills 94 = .ok (.dup, 1) := dq0 kk_89 (by decide +kernel)
theorem wdX12_fills_95 : decode cX12_fills 95 = .ok (.getfield 66, 3) := dqV kk_180 (by decide +kernel)
theorem wdX12_fills_98 : decode cX12_fills 98 = .ok (.iconst 1, 1) := dq0 kk_4 (by decide +kernel)
theorem wdX12_fills_99 : decode cX12_fills 99 = .ok (.iadd, 1) := dq0 kk_96 (by decide +kernel)
theorem wdX12_fills_100 : decode cX12_fills 100 = .ok (.putfield 66, 3) := dqV kk_181 (by decide +kernel)
theorem wdX12_fills_103 : decode cX12_fills 103 = .ok (.goto 11, 3) := dqT kk_167 (by decide +kernel)
theorem wdX12_fills_114 : decode cX12_fills 114 = .ok (.return_, 1) := dq0 kk_177 (by decide +kernel)
theorem wdX12_fills_106 : decode cX12_fills 106 = .ok (.aload_n 0, 1) := dq0 kk_42 (by decide +kernel)
theorem wdX12_fills_107 : decode cX12_fills 107 = .ok (.getfield 17, 3) := dqV kk_180 (by decide +kernel)
theorem wdX12_fills_110 : decode cX12_fills 110 = .ok (.iload_n 3, 1) := dq0 kk_29 (by decide +kernel)
theorem wdX12_fills_111 : decode cX12_fills 111 = .ok (.invokestatic 108, 3) := dqV kk_184 (by decide +kernel)
theorem wdX12_fills_19 : decode cX12_fills 19 = .ok (.return_, 1) := dq0 kk_177 (by decide +kernel)
set_option maxRecDepth 4000 in
theorem s_X12_fills {l : Launch} {D : va_G} {B : Nat} {cy : Nat → ClassId} {M : Mem} {q hv ed : Nat} {o : Wo} {z9 : Int} (hR : RW M q hv ed o z9) {s9 kn : Nat} (hs9 : s9 < q) (hkn : kn ≤ 2) : Cv l D B cy yX12_fills cX12_fills 5 3 66 [.ref (B + 146), .int (zI (s9 : Int)), .int (zI (kn : Int))] M (fun M1 => RQ q hv ed (fiS kn s9 o) 2 z9 M M1) := by
  refine s_any (by decide) (Nat.le_of_ble_eq_true rfl) ?_
  intro p e s m below meth c ls F hr hlocks w hl
  have F : CallFix p m c cX12_fills 5 s _ TB RX12 := F
  have hx := F.1
  have hb := F.2.1
  have hl : lv_has ls 5 [(0, .ref (B + 146)), (1, .int (zI (s9 : Int))), (2, .int (zI (kn : Int)))] := hl
  have hW := hR.1
  have hwf := hR.wf
  have hKL := hwf.2.2.2.2
  have hn12 := hwf.1
  have hq12 := hwf.2.1
  have hhv := hwf.2.2.1
  have hed := hwf.2.2.2.1
  have hc := hR.2.2.2.2
  refine lv_aload_n hx hb wdX12_fills_0 rfl (lv_at hl 0 rfl) ?_
  refine lv_iload_n hx hb wdX12_fills_1 rfl (lv_at hl 1 rfl) ?_
  refine k_Vi F w (As := [.int (zI (s9 : Int))]) (rest := []) (a := 146) (kd_lt (a := 146) (show kd 146 = (12, 0, 0) from rfl) (by decide)) (sh_12 rfl _ _) rfl (s_X12_isBare hW hwf hc (j := s9) (by omega)) wgv_X12_82 whv_X12_isBare ⟨(Nat.le_of_ble_eq_true rfl), (Nat.le_of_ble_eq_true rfl)⟩ hl.1 rfl (Nat.le_of_ble_eq_true rfl) ⟨Nat.zero_le _, Nat.zero_le _⟩ wdX12_fills_2 (fun r Ma2 H locs hp w => ?_)
  rcases hp with ⟨⟨hb1, rfl⟩ | ⟨hb1, rfl⟩, hMe⟩
  · rw [hMe] at w
    refine z_if_eq (tgt := 19) hx hb (by omega) wdX12_fills_5 (by decide) (fun c3 => False.elim (by omega)) (fun c3 => ?_)
    refine lv_aload_n hx hb wdX12_fills_8 rfl (lv_at hl 0 rfl) ?_
    refine f_12_2 F w (a := 146) rfl wtb_102 wdX12_fills_9 ?_
    refine lv_iconst (v := zI 0) hx hb wdX12_fills_12 rfl ?_
    refine g_iald F w (a := 148) rfl (j := 0) ⟨by decide, by decide⟩ (by omega) wdX12_fills_13 ?_
    refine r_val (v := (zI ((o.1 : Nat) : Int))) (hW.1) ?_
    refine lv_bipush (v := zI 12) hx hb wdX12_fills_14 (by decide) ?_
    refine z_icmp_ne (tgt := 20) hx hb (by omega) (by omega) wdX12_fills_16 (by decide) (fun c4 => ?_) (fun c4 => ?_)
    · refine lv_iconst (v := zI 0) hx hb wdX12_fills_20 rfl ?_
      refine lv_istore_n (lv' := [(3, .int (zI 0)), (0, .ref (B + 146)), (1, .int (zI (s9 : Int))), (2, .int (zI (kn : Int)))]) hx hb wdX12_fills_21 rfl hl (by decide) rfl (fun ls hl => ?_)
      refine lv_iconst (v := zI 0) hx hb wdX12_fills_22 rfl ?_
      refine lv_istore (lv' := [(4, .int (zI 0)), (3, .int (zI 0)), (0, .ref (B + 146)), (1, .int (zI (s9 : Int))), (2, .int (zI (kn : Int)))]) hx hb wdX12_fills_23 hl (by decide) rfl (fun ls hl => ?_)
      refine lp_X12_fills  F (Nat.le_of_ble_eq_true rfl) (Nat.le_of_ble_eq_true rfl) hR (by omega) (fun t H locs ls x0 w hl => ?_) o.1 0 (by omega) (by omega) _ _ ls w (lv_sub hl [0, 1, 2, 3, 4] rfl)
      subst x0
      have hpl := plF_le (L := o.2.2) (s9 := s9) o.1
      refine lv_aload_n hx hb wdX12_fills_66 rfl (lv_at hl 2 rfl) ?_
      refine f_12_2 F w (a := 146) rfl wtb_102 wdX12_fills_67 ?_
      refine lv_iload_n hx hb wdX12_fills_70 rfl (lv_at hl 1 rfl) ?_
      refine lv_iload_n hx hb wdX12_fills_71 rfl (lv_at hl 4 rfl) ?_
      refine k_Sv F w (As := [.ref (B + 148), .int (zI (((plF o.2.2 s9 o.1) : Nat) : Int)), .int (zI (kn : Int))]) (rest := []) (s_X12_insert (a := 148) rfl hW hwf (t := (plF o.2.2 s9 o.1)) (x := kn) (by omega) (by omega) hkn) wgs_X12_112 whs_X12_insert ⟨(Nat.le_of_ble_eq_true rfl), (Nat.le_of_ble_eq_true rfl)⟩ hl.1 rfl (Nat.le_of_ble_eq_true rfl) ⟨Nat.zero_le _, Nat.zero_le _⟩ wdX12_fills_72 (fun Ma5 H locs hp w => ?_)
      rcases hp with ⟨hW3, hF3⟩
      have hok := okW_ins hR.2.1 (show o.1 < 12 by omega) hpl hkn (t := (plF o.2.2 s9 o.1))
      have hR3 : RW Ma5 q hv ed (o.1 + 1, insF o.2.1 (plF o.2.2 s9 o.1) kn, insF o.2.2 (plF o.2.2 s9 o.1) 0) z9 := ⟨hW3, hok, hhv, hed, (congrFun (hF3.1 146 (by decide)) 3).trans hc⟩
      have hwf3 := hR3.wf
      have hc3 := hR3.2.2.2.2
      refine lv_aload_n hx hb wdX12_fills_75 rfl (lv_at hl 2 rfl) ?_
      refine f_12_2 F w (a := 146) rfl wtb_102 wdX12_fills_76 ?_
      refine lv_iload_n hx hb wdX12_fills_79 rfl (lv_at hl 1 rfl) ?_
      refine lv_iload_n hx hb wdX12_fills_80 rfl (lv_at hl 3 rfl) ?_
      refine k_Si F w (As := [.ref (B + 148), .int (zI (((plF o.2.2 s9 o.1) : Nat) : Int)), .int (zI (s9 : Int))]) (rest := []) (s_X12_isOpen (a := 148) rfl hW3 hwf3 (t := (plF o.2.2 s9 o.1)) (j := s9) (by show _ < o.1 + 1; omega) (by omega)) wgs_X12_86 whs_X12_isOpen ⟨(Nat.le_of_ble_eq_true rfl), (Nat.le_of_ble_eq_true rfl)⟩ hl.1 rfl (Nat.le_of_ble_eq_true rfl) ⟨Nat.zero_le _, Nat.zero_le _⟩ wdX12_fills_81 (fun r Ma6 H locs hp w => ?_)
      rcases hp with ⟨⟨ho9, rfl⟩ | ⟨ho9, rfl⟩, hMe⟩
      · rw [hMe] at w
        refine z_if_eq (tgt := 106) hx hb (by omega) wdX12_fills_84 (by decide) (fun c7 => False.elim (by omega)) (fun c7 => ?_)
        refine lv_aload_n hx hb wdX12_fills_87 rfl (lv_at hl 2 rfl) ?_
        refine lv_iload_n hx hb wdX12_fills_88 rfl (lv_at hl 1 rfl) ?_
        refine lv_iload_n hx hb wdX12_fills_89 rfl (lv_at hl 3 rfl) ?_
        refine k_Vv F w (As := [.int (zI (((plF o.2.2 s9 o.1) : Nat) : Int)), .int (zI (s9 : Int))]) (rest := []) (a := 146) (kd_lt (a := 146) (show kd 146 = (12, 0, 0) from rfl) (by decide)) (sh_12 rfl _ _) rfl (s_X12_comes hW3 hwf3 hc3 (t := (plF o.2.2 s9 o.1)) (j := s9) (by show _ < o.1 + 1; omega) (by omega)) wgv_X12_90 whv_X12_comes ⟨(Nat.le_of_ble_eq_true rfl), (Nat.le_of_ble_eq_true rfl)⟩ hl.1 rfl (Nat.le_of_ble_eq_true rfl) ⟨Nat.zero_le _, Nat.zero_le _⟩ wdX12_fills_90 (fun Ma8 H locs hp w => ?_)
        rcases hp with ⟨hW4, hc4, hF4⟩
        refine lv_aload_n hx hb wdX12_fills_93 rfl (lv_at hl 2 rfl) ?_
        refine lv_dup hx hb wdX12_fills_94 rfl ?_
        refine f_12_3 F w (a := 146) rfl wtb_125 wdX12_fills_95 ?_
        refine r_val (v := (zI (z9 + 1))) (hc4) ?_
        refine lv_iconst (v := zI 1) hx hb wdX12_fills_98 rfl ?_
        refine z_iadd (z := ((z9 + 1) + 1)) hx hb wdX12_fills_99 (by omega) ?_
        refine u_12_3 F w (a := 146) rfl wtb_125 wdX12_fills_100 (fun H locs w => ?_)
        refine lv_goto (tgt := 114) hx hb wdX12_fills_103 (by decide) ?_
        exact e_v F w hr hlocks (⟨fiO kn s9 o, 2, fiS_y ⟨hb1, by omega, (open_ins hpl).mp ho9⟩, ⟨isR.c3 (by have h9 := hW4; rw [insF_at] at h9; exact h9), okW_fi hR.2.1 (by omega) hkn hs9, hhv, hed, st_at.trans (congrArg zI (by omega))⟩, FrC.tr (FrC.tr (FrC.of1 hF3) hF4) FrC.c3, by omega⟩) wdX12_fills_114
      · rw [hMe] at w
        refine z_if_eq (tgt := 106) hx hb (by omega) wdX12_fills_84 (by decide) (fun c9 => ?_) (fun c9 => False.elim (by omega))
        refine lv_aload_n hx hb wdX12_fills_106 rfl (lv_at hl 2 rfl) ?_
        refine f_12_2 F w (a := 146) rfl wtb_102 wdX12_fills_107 ?_
        refine lv_iload_n hx hb wdX12_fills_110 rfl (lv_at hl 1 rfl) ?_
        refine k_Sv F w (As := [.ref (B + 148), .int (zI (((plF o.2.2 s9 o.1) : Nat) : Int))]) (rest := []) (s_X12_remove (a := 148) rfl hW3 hwf3 (t := (plF o.2.2 s9 o.1)) (by show _ < o.1 + 1; omega)) wgs_X12_108 whs_X12_remove ⟨(Nat.le_of_ble_eq_true rfl), (Nat.le_of_ble_eq_true rfl)⟩ hl.1 rfl (Nat.le_of_ble_eq_true rfl) ⟨Nat.zero_le _, Nat.zero_le _⟩ wdX12_fills_111 (fun Ma10 H locs hp w => ?_)
        rcases hp with ⟨hW4, hF4⟩
        exact e_v F w hr hlocks (⟨o, 0, fiS_n (fun h9 => ho9 ((open_ins hpl).mpr h9.2.2)), ⟨by have h9 := hW4; rw [remF_ins, remF_ins] at h9; exact h9, hR.2.1, hhv, hed, (congrFun (hF4.1 146 (by decide)) 3).trans (hc3.trans (congrArg zI (by omega)))⟩, FrC.tr (FrC.of1 hF3) (FrC.of1 hF4), by omega⟩) wdX12_fills_114
    · exact e_v F w hr hlocks (RQ.id hR (fiS_n (fun h9 => by have h8 := h9.2.1; omega))) wdX12_fills_19
  · rw [hMe] at w
    refine z_if_eq (tgt := 19) hx hb (by omega) wdX12_fills_5 (by decide) (fun c11 => ?_) (fun c11 => False.elim (by omega))
    exact e_v F w hr hlocks (RQ.id hR (fiS_n (fun h9 => hb1 h9.1))) wdX12_fills_19
