theorem rdX5_faultOfText_14 : decode cX5_faultOfText 14 = .ok (.aload_n 0, 1) := dq0 kk_42 (by decide +kernel)
theorem rdX5_faultOfText_15 : decode cX5_faultOfText 15 = .ok (.getfield 21, 3) := dqV kk_180 (by decide +kernel)
theorem rdX5_faultOfText_18 : decode cX5_faultOfText 18 = .ok (.aload_n 0, 1) := dq0 kk_42 (by decide +kernel)
theorem rdX5_faultOfText_19 : decode cX5_faultOfText 19 = .ok (.getfield 31, 3) := dqV kk_180 (by decide +kernel)
theorem rdX5_faultOfText_22 : decode cX5_faultOfText 22 = .ok (.getfield 39, 3) := dqV kk_180 (by decide +kernel)
theorem rdX5_faultOfText_25 : decode cX5_faultOfText 25 = .ok (.if_icmp .ge 46, 3) := dqT kk_162 (by decide +kernel)
theorem rdX5_faultOfText_28 : decode cX5_faultOfText 28 = .ok (.aload_n 0, 1) := dq0 kk_42 (by decide +kernel)
theorem rdX5_faultOfText_29 : decode cX5_faultOfText 29 = .ok (.getfield 17, 3) := dqV kk_180 (by decide +kernel)
theorem rtb_77 : Cond.fieldLink "ToneLines$RuleReader" 17 "ToneLines$RuleReader" "read" "I" ∈ TB := tbm (tc1 (List.mem_of_getElem? (i := 85) rfl)) rfl
theorem rdX5_faultOfText_32 : decode cX5_faultOfText 32 = .ok (.bipush 8, 2) := dqS kk_16 (by decide +kernel)
theorem rdX5_faultOfText_34 : decode cX5_faultOfText 34 = .ok (.if_icmp .ge 19, 3) := dqT kk_162 (by decide +kernel)
theorem rdX5_faultOfText_53 : decode cX5_faultOfText 53 = .ok (.aload_n 0, 1) := dq0 kk_42 (by decide +kernel)
theorem rdX5_faultOfText_54 : decode cX5_faultOfText 54 = .ok (.getfield 21, 3) := dqV kk_180 (by decide +kernel)
theorem rdX5_faultOfText_57 : decode cX5_faultOfText 57 = .ok (.ireturn, 1) := dq0 kk_172 (by decide +kernel)
theorem rdX5_faultOfText_37 : decode cX5_faultOfText 37 = .ok (.aload_n 0, 1) := dq0 kk_42 (by decide +kernel)
theorem rdX5_faultOfText_38 : decode cX5_faultOfText 38 = .ok (.aload_n 0, 1) := dq0 kk_42 (by decide +kernel)
theorem rdX5_faultOfText_39 : decode cX5_faultOfText 39 = .ok (.getfield 11, 3) := dqV kk_180 (by decide +kernel)
theorem rtb_78 : Cond.fieldLink "ToneLines$RuleReader" 11 "ToneLines$RuleReader" "drafts" "[LToneLines$Rule;" ∈ TB := tbm (tc1 (List.mem_of_getElem? (i := 83) rfl)) rfl
theorem rdX5_faultOfText_42 : decode cX5_faultOfText 42 = .ok (.aload_n 0, 1) := dq0 kk_42 (by decide +kernel)
theorem rdX5_faultOfText_43 : decode cX5_faultOfText 43 = .ok (.getfield 17, 3) := dqV kk_180 (by decide +kernel)
theorem rdX5_faultOfText_46 : decode cX5_faultOfText 46 = .ok (.aaload, 1) := dq0 kk_50 (by decide +kernel)
theorem rdX5_faultOfText_47 : decode cX5_faultOfText 47 = .ok (.invokevirtual 44, 3) := dqV kk_182 (by decide +kernel)
theorem rtk_X5_readRule : Cond.code yX5_readRule cX5_readRule 2 (some .boolean) ∈ TB := tbm (tc3 (List.mem_of_getElem? (i := 56) rfl)) rfl
theorem rgc_X5_readRule : GoodIn TB (cw yX5_readRule cX5_readRule 2 (some .boolean)) := goodIn_c2 rtk_X5_readRule
theorem rtb_79 : Cond.methodLink "ToneLines$RuleReader" 44 yX5_readRule ∈ TB := tbm (tc3 (List.mem_of_getElem? (i := 53) rfl)) rfl
theorem rtb_80 : Cond.instanceMethod yX5_readRule ∈ TB := tbm (tc3 (List.mem_of_getElem? (i := 55) rfl)) rfl
theorem rtb_81 : Cond.selects "ToneLines$RuleReader" yX5_readRule yX5_readRule ∈ TB := tbp (List.mem_of_getElem? (i := 7) rfl) rfl
theorem rgv_X5_44 : GoodIn TB (wsV RX5 44 RX5 yX5_readRule (cw yX5_readRule cX5_readRule 2 (some .boolean))) := goodIn_4 rtb_79 rtb_80 rtb_81 rtb_37 rgc_X5_readRule
theorem rhv_X5_readRule : yX5_readRule.cls = RX5 ∧ yX5_readRule.cls ≠ "java/lang/invoke/MethodHandle" ∧ yX5_readRule.cls ≠ "java/lang/invoke/VarHandle" ∧ (parseMethodDescriptor yX5_readRule.desc).map (fun d => d.parameters.length) = some 1 := by decide +kernel
theorem rdX5_faultOfText_50 : decode cX5_faultOfText 50 = .ok (.ifCond .ne 8, 3) := dqT kk_154 (by decide +kernel)
theorem rdX5_faultOfText_58 : decode cX5_faultOfText 58 = .ok (.aload_n 0, 1) := dq0 kk_42 (by decide +kernel)
theorem rdX5_faultOfText_59 : decode cX5_faultOfText 59 = .ok (.dup, 1) := dq0 kk_89 (by decide +kernel)
theorem rdX5_faultOfText_60 : decode cX5_faultOfText 60 = .ok (.getfield 17, 3) := dqV kk_180 (by decide +kernel)
theorem rdX5_faultOfText_63 : decode cX5_faultOfText 63 = .ok (.iconst 1, 1) := dq0 kk_4 (by decide +kernel)
theorem rdX5_faultOfText_64 : decode cX5_faultOfText 64 = .ok (.iadd, 1) := dq0 kk_96 (by decide +kernel)
theorem rdX5_faultOfText_65 : decode cX5_faultOfText 65 = .ok (.putfield 17, 3) := dqV kk_181 (by decide +kernel)
theorem rdX5_faultOfText_68 : decode cX5_faultOfText 68 = .ok (.goto (-54), 3) := dqT kk_167 (by decide +kernel)
set_option maxRecDepth 4000 in
theorem lp_X5_fault {p : Program} {l : Launch} {e : Env} {s : State} {m : MethodId} {args : Array Value} {below : List Frame} {meth : Method} {c : Code} {D : va_G} {B : Nat} {cy : Nat → ClassId}  {M : Mem} {R : Room} {T : Nat → Nat} {tn : Nat} (F : CallFix p m c cX5_faultOfText 1 s args TB RX5) (hr : meth.sig.returnType = (some .int)) (hlocks : meth.locks = false) (hR1 : 8 ≤ R.frames) (hR2 : 177 ≤ R.locals) (hT : okT T tn) (kk : ∀ (i : Nat) (Nm : Mem) (H : Heap) (locs : List Loc) (ls : Array Slot), (rlE T tn i) → (Nm.1 4 2 = zI (i : Int)) → (isD Nm T tn i) → (FrT Nm M) → Wd D B cy s s.heap Nm H locs → lv_has ls 1 [(0, .ref (B + 4))] → W p l e R s m args below meth c H locs 0 0 (MQ below (va_Qi (fun r M1 => ((∃ m9, rlE T tn m9 ∧ r = zI (-1) ∧ M1.1 4 2 = zI (m9 : Int) ∧ isD M1 T tn m9) ∨ (∃ m9 z9, rlF T tn m9 z9 ∧ r = zI z9)) ∧ FrT M1 M) (fun M2 t2 => Wp D B cy M2 t2) (fun q2 => B ≤ q2)) args s 0 0 (fun q2 => B ≤ q2)) (F0 m 71 ls [])) : ∀ (f : Nat) (i : Nat) (Nm : Mem), (i ≤ 8) → (RS Nm T tn (bI T tn i)) → (isTc Nm T tn) → (Nm.1 4 2 = zI (i : Int)) → (okI T tn i) → (isD Nm T tn i) → (FrT Nm M) → (8 ≤ i + f) → ∀ (H : Heap) (locs : List Loc) (ls : Array Slot), Wd D B cy s s.heap Nm H locs → lv_has ls 1 [(0, .ref (B + 4))] → W p l e R s m args below meth c H locs 0 0 (MQ below (va_Qi (fun r M1 => ((∃ m9, rlE T tn m9 ∧ r = zI (-1) ∧ M1.1 4 2 = zI (m9 : Int) ∧ isD M1 T tn m9) ∨ (∃ m9 z9, rlF T tn m9 z9 ∧ r = zI z9)) ∧ FrT M1 M) (fun M2 t2 => Wp D B cy M2 t2) (fun q2 => B ≤ q2)) args s 0 0 (fun q2 => B ≤ q2)) (F0 m 14 ls []) := by
  have hx := F.1
  have hb := F.2.1
  have hN := hT.1
  intro f
  induction f with
  | zero =>
    intro i Nm i0 i1 i2 i3 i4 i5 i6 hf H locs ls w hl
    have hb9 := i1.1
    have hskb := sk_le (T := T) i1.1
    refine lv_aload_n hx hb rdX5_faultOfText_14 rfl (lv_at hl 0 rfl) ?_
    refine f_5_3 F w (a := 4) rfl rtb_33 rdX5_faultOfText_15 ?_
    refine r_val (v := (zI (((sk T tn (bI T tn i)) : Nat) : Int))) (i1.2.1) ?_
    refine lv_aload_n hx hb rdX5_faultOfText_18 rfl (lv_at hl 0 rfl) ?_
    refine f_5_0 F w (a := 4) rfl rtb_22 rdX5_faultOfText_19 ?_
    refine f_8_1 F w (a := 1) rfl rtb_23 rdX5_faultOfText_22 ?_
    refine r_val (v := (zI (tn : Int))) (i2.1) ?_
    refine z_icmp_ge (tgt := 71) hx hb (by omega) (by omega) rdX5_faultOfText_25 (by decide) (fun c1 => ?_) (fun c1 => ?_)
    · exact kk i Nm _ _ ls ⟨i0, i4, by omega⟩ i3 i5 i6 w (lv_sub hl [0] rfl)
    · refine lv_aload_n hx hb rdX5_faultOfText_28 rfl (lv_at hl 0 rfl) ?_
      refine f_5_2 F w (a := 4) rfl rtb_77 rdX5_faultOfText_29 ?_
      refine r_val (v := (zI (i : Int))) (i3) ?_
      refine lv_bipush (v := zI 8) hx hb rdX5_faultOfText_32 (by decide) ?_
      refine z_icmp_ge (tgt := 53) hx hb (by omega) (by omega) rdX5_faultOfText_34 (by decide) (fun c2 => ?_) (fun c2 => ?_)
      · refine lv_aload_n hx hb rdX5_faultOfText_53 rfl (lv_at hl 0 rfl) ?_
        refine f_5_3 F w (a := 4) rfl rtb_33 rdX5_faultOfText_54 ?_
        refine r_val (v := (zI (((sk T tn (bI T tn i)) : Nat) : Int))) (i1.2.1) ?_
        exact e_i F w hr hlocks ⟨Or.inr ⟨i, _, ⟨by omega, i4, by omega, Or.inl ⟨by omega, rfl⟩⟩, rfl⟩, i6⟩ rdX5_faultOfText_57
      · refine lv_aload_n hx hb rdX5_faultOfText_37 rfl (lv_at hl 0 rfl) ?_
        refine lv_aload_n hx hb rdX5_faultOfText_38 rfl (lv_at hl 0 rfl) ?_
        refine f_5_1 F w (a := 4) rfl rtb_78 rdX5_faultOfText_39 ?_
        refine lv_aload_n hx hb rdX5_faultOfText_42 rfl (lv_at hl 0 rfl) ?_
        refine f_5_2 F w (a := 4) rfl rtb_77 rdX5_faultOfText_43 ?_
        refine r_val (v := (zI (i : Int))) (i3) ?_
        refine g_aldR F w (a := 5) rfl (j := i) (o := (6 + 2 * i)) rfl (ix_n (by omega)) (by omega) rdX5_faultOfText_46 ?_
        refine k_Vi F w (As := [.ref (B + (6 + 2 * i))]) (rest := []) (a := 4) (kd_lt (a := 4) (show kd 4 = (5, 0, 0) from rfl) (by decide)) (sh_5 rfl _ _) rfl (s_X5_readRule hT i2 i1 (ru := 6 + 2 * i) (kd_dra (by omega))) rgv_X5_44 rhv_X5_readRule ⟨(by omega), (by omega)⟩ hl.1 rfl (Nat.le_of_ble_eq_true rfl) ⟨Nat.zero_le _, Nat.zero_le _⟩ rdX5_faultOfText_47 (fun r Ma4 H locs hp w => ?_)
        obtain ⟨hGy3, hry3, hRy3, hUy3, hFy3⟩ : XQ T tn Nm (6 + 2 * i) (rdR T tn (bI T tn i)) r Ma4 := hp
        have hCy3 := isTc.u i2 hFy3 (by omega)
        rcases hGy3.1 with gy3 | gy3
        · refine r_val (v := zI 0) (hry3.trans (by rw [gy3]; rfl)) ?_
          refine z_if_ne (tgt := 58) hx hb (by omega) rdX5_faultOfText_50 (by decide) (fun c5 => False.elim (by omega)) (fun c5 => ?_)
          refine lv_aload_n hx hb rdX5_faultOfText_53 rfl (lv_at hl 0 rfl) ?_
          refine f_5_3 F w (a := 4) rfl rtb_33 rdX5_faultOfText_54 ?_
          refine r_val (v := (zI (((sk T tn (rdR T tn (bI T tn i)).2.1) : Nat) : Int))) (hRy3.2.1) ?_
          exact e_i F w hr hlocks ⟨Or.inr ⟨i, _, ⟨by omega, i4, by omega, Or.inr ⟨by omega, gy3, rfl⟩⟩, rfl⟩, FrT.tr i6 (FrT.u hFy3 (by omega))⟩ rdX5_faultOfText_57
        · refine r_val (v := zI 1) (hry3.trans (by rw [gy3]; rfl)) ?_
          refine z_if_ne (tgt := 58) hx hb (by omega) rdX5_faultOfText_50 (by decide) (fun c6 => ?_) (fun c6 => False.elim (by omega))
          refine lv_aload_n hx hb rdX5_faultOfText_58 rfl (lv_at hl 0 rfl) ?_
          refine lv_dup hx hb rdX5_faultOfText_59 rfl ?_
          refine f_5_2 F w (a := 4) rfl rtb_77 rdX5_faultOfText_60 ?_
          refine r_val (v := (zI (i : Int))) ((hFy3.2.1.trans i3)) ?_
          refine lv_iconst (v := zI 1) hx hb rdX5_faultOfText_63 rfl ?_
          refine z_iadd (z := (((i + 1) : Nat) : Int)) hx hb rdX5_faultOfText_64 (by omega) ?_
          refine u_5_2 F w (a := 4) rfl rtb_77 rdX5_faultOfText_65 (fun H locs w => ?_)
          refine lv_goto (tgt := 14) hx hb rdX5_faultOfText_68 (by decide) ?_
          exact False.elim (by omega)
  | succ f ih =>
    intro i Nm i0 i1 i2 i3 i4 i5 i6 hf H locs ls w hl
    have hb9 := i1.1
    have hskb := sk_le (T := T) i1.1
    refine lv_aload_n hx hb rdX5_faultOfText_14 rfl (lv_at hl 0 rfl) ?_
    refine f_5_3 F w (a := 4) rfl rtb_33 rdX5_faultOfText_15 ?_
    refine r_val (v := (zI (((sk T tn (bI T tn i)) : Nat) : Int))) (i1.2.1) ?_
    refine lv_aload_n hx hb rdX5_faultOfText_18 rfl (lv_at hl 0 rfl) ?_
    refine f_5_0 F w (a := 4) rfl rtb_22 rdX5_faultOfText_19 ?_
    refine f_8_1 F w (a := 1) rfl rtb_23 rdX5_faultOfText_22 ?_
    refine r_val (v := (zI (tn : Int))) (i2.1) ?_
    refine z_icmp_ge (tgt := 71) hx hb (by omega) (by omega) rdX5_faultOfText_25 (by decide) (fun c1 => ?_) (fun c1 => ?_)
    · exact kk i Nm _ _ ls ⟨i0, i4, by omega⟩ i3 i5 i6 w (lv_sub hl [0] rfl)
    · refine lv_aload_n hx hb rdX5_faultOfText_28 rfl (lv_at hl 0 rfl) ?_
      refine f_5_2 F w (a := 4) rfl rtb_77 rdX5_faultOfText_29 ?_
      refine r_val (v := (zI (i : Int))) (i3) ?_
      refine lv_bipush (v := zI 8) hx hb rdX5_faultOfText_32 (by decide) ?_
      refine z_icmp_ge (tgt := 53) hx hb (by omega) (by omega) rdX5_faultOfText_34 (by decide) (fun c2 => ?_) (fun c2 => ?_)
      · refine lv_aload_n hx hb rdX5_faultOfText_53 rfl (lv_at hl 0 rfl) ?_
        refine f_5_3 F w (a := 4) rfl rtb_33 rdX5_faultOfText_54 ?_
        refine r_val (v := (zI (((sk T tn (bI T tn i)) : Nat) : Int))) (i1.2.1) ?_
        exact e_i F w hr hlocks ⟨Or.inr ⟨i, _, ⟨by omega, i4, by omega, Or.inl ⟨by omega, rfl⟩⟩, rfl⟩, i6⟩ rdX5_faultOfText_57
      · refine lv_aload_n hx hb rdX5_faultOfText_37 rfl (lv_at hl 0 rfl) ?_
        refine lv_aload_n hx hb rdX5_faultOfText_38 rfl (lv_at hl 0 rfl) ?_
        refine f_5_1 F w (a := 4) rfl rtb_78 rdX5_faultOfText_39 ?_
        refine lv_aload_n hx hb rdX5_faultOfText_42 rfl (lv_at hl 0 rfl) ?_
        refine f_5_2 F w (a := 4) rfl rtb_77 rdX5_faultOfText_43 ?_
        refine r_val (v := (zI (i : Int))) (i3) ?_
        refine g_aldR F w (a := 5) rfl (j := i) (o := (6 + 2 * i)) rfl (ix_n (by omega)) (by omega) rdX5_faultOfText_46 ?_
        refine k_Vi F w (As := [.ref (B + (6 + 2 * i))]) (rest := []) (a := 4) (kd_lt (a := 4) (show kd 4 = (5, 0, 0) from rfl) (by decide)) (sh_5 rfl _ _) rfl (s_X5_readRule hT i2 i1 (ru := 6 + 2 * i) (kd_dra (by omega))) rgv_X5_44 rhv_X5_readRule ⟨(by omega), (by omega)⟩ hl.1 rfl (Nat.le_of_ble_eq_true rfl) ⟨Nat.zero_le _, Nat.zero_le _⟩ rdX5_faultOfText_47 (fun r Ma4 H locs hp w => ?_)
        obtain ⟨hGy3, hry3, hRy3, hUy3, hFy3⟩ : XQ T tn Nm (6 + 2 * i) (rdR T tn (bI T tn i)) r Ma4 := hp
        have hCy3 := isTc.u i2 hFy3 (by omega)
        rcases hGy3.1 with gy3 | gy3
        · refine r_val (v := zI 0) (hry3.trans (by rw [gy3]; rfl)) ?_
          refine z_if_ne (tgt := 58) hx hb (by omega) rdX5_faultOfText_50 (by decide) (fun c5 => False.elim (by omega)) (fun c5 => ?_)
          refine lv_aload_n hx hb rdX5_faultOfText_53 rfl (lv_at hl 0 rfl) ?_
          refine f_5_3 F w (a := 4) rfl rtb_33 rdX5_faultOfText_54 ?_
          refine r_val (v := (zI (((sk T tn (rdR T tn (bI T tn i)).2.1) : Nat) : Int))) (hRy3.2.1) ?_
          exact e_i F w hr hlocks ⟨Or.inr ⟨i, _, ⟨by omega, i4, by omega, Or.inr ⟨by omega, gy3, rfl⟩⟩, rfl⟩, FrT.tr i6 (FrT.u hFy3 (by omega))⟩ rdX5_faultOfText_57
        · refine r_val (v := zI 1) (hry3.trans (by rw [gy3]; rfl)) ?_
          refine z_if_ne (tgt := 58) hx hb (by omega) rdX5_faultOfText_50 (by decide) (fun c6 => ?_) (fun c6 => False.elim (by omega))
          refine lv_aload_n hx hb rdX5_faultOfText_58 rfl (lv_at hl 0 rfl) ?_
          refine lv_dup hx hb rdX5_faultOfText_59 rfl ?_
          refine f_5_2 F w (a := 4) rfl rtb_77 rdX5_faultOfText_60 ?_
          refine r_val (v := (zI (i : Int))) ((hFy3.2.1.trans i3)) ?_
          refine lv_iconst (v := zI 1) hx hb rdX5_faultOfText_63 rfl ?_
          refine z_iadd (z := (((i + 1) : Nat) : Int)) hx hb rdX5_faultOfText_64 (by omega) ?_
          refine u_5_2 F w (a := 4) rfl rtb_77 rdX5_faultOfText_65 (fun H locs w => ?_)
          refine lv_goto (tgt := 14) hx hb rdX5_faultOfText_68 (by decide) ?_
          exact ih (i + 1) (st Ma4 4 2 (zI (((i + 1) : Nat) : Int))) (by omega) (RS.fr2 hRy3) (isTc.o hCy3 (by decide) (by decide)) st_at (okI_s i4 (by omega) gy3) (isD_fr (isD_s i5 hFy3 hUy3) (by omega) (fun a h1 h2 => st_o (by omega))) (FrT.to (FrT.tr i6 (FrT.u hFy3 (by omega))) (by decide)) (by omega) _ _ ls w (lv_sub hl [0] rfl)
theorem rdX5_faultOfText_0 : decode cX5_faultOfText 0 = .ok (.aload_n 0, 1) := dq0 kk_42 (by decide +kernel)
theorem rdX5_faultOfText_1 : decode cX5_faultOfText 1 = .ok (.iconst 0, 1) := dq0 kk_3 (by decide +kernel)
theorem rdX5_faultOfText_2 : decode cX5_faultOfText 2 = .ok (.putfield 17, 3) := dqV kk_181 (by decide +kernel)
theorem rdX5_faultOfText_5 : decode cX5_faultOfText 5 = .ok (.aload_n 0, 1) := dq0 kk_42 (by decide +kernel)
theorem rdX5_faultOfText_6 : decode cX5_faultOfText 6 = .ok (.iconst 0, 1) := dq0 kk_3 (by decide +kernel)
theorem rdX5_faultOfText_7 : decode cX5_faultOfText 7 = .ok (.putfield 24, 3) := dqV kk_181 (by decide +kernel)
theorem rdX5_faultOfText_10 : decode cX5_faultOfText 10 = .ok (.aload_n 0, 1) := dq0 kk_42 (by decide +kernel)
theorem rdX5_faultOfText_11 : decode cX5_faultOfText 11 = .ok (.invokevirtual 36, 3) := dqV kk_182 (by decide +kernel)
theorem rdX5_faultOfText_71 : decode cX5_faultOfText 71 = .ok (.iconst (-1), 1) := dq0 kk_2 (by decide +kernel)
theorem rdX5_faultOfText_72 : decode cX5_faultOfText 72 = .ok (.ireturn, 1) := dq0 kk_172 (by decide +kernel)
set_option maxRecDepth 4000 in
theorem s_X5_fault {l : Launch} {D : va_G} {B : Nat} {cy : Nat → ClassId} {M : Mem} {T : Nat → Nat} {tn : Nat} (hT : okT T tn) (hTc : isTc M T tn) : Ci l D B cy yX5_faultOfText cX5_faultOfText 1 (some .int) 8 177 [.ref (B + 4)] M (fun r M1 => ((∃ m9, rlE T tn m9 ∧ r = zI (-1) ∧ M1.1 4 2 = zI (m9 : Int) ∧ isD M1 T tn m9) ∨ (∃ m9 z9, rlF T tn m9 z9 ∧ r = zI z9)) ∧ FrT M1 M) := by
  refine s_any (by decide) (Nat.le_of_ble_eq_true rfl) ?_
  intro p e s m below meth c ls F hr hlocks w hl
  have F : CallFix p m c cX5_faultOfText 1 s _ TB RX5 := F
  have hx := F.1
  have hb := F.2.1
  have hl : lv_has ls 1 [(0, .ref (B + 4))] := hl
  have hN := hT.1
  refine lv_aload_n hx hb rdX5_faultOfText_0 rfl (lv_at hl 0 rfl) ?_
  refine lv_iconst (v := zI 0) hx hb rdX5_faultOfText_1 rfl ?_
  refine u_5_2 F w (a := 4) rfl rtb_77 rdX5_faultOfText_2 (fun H locs w => ?_)
  refine lv_aload_n hx hb rdX5_faultOfText_5 rfl (lv_at hl 0 rfl) ?_
  refine lv_iconst (v := zI 0) hx hb rdX5_faultOfText_6 rfl ?_
  refine u_5_4 F w (a := 4) rfl rtb_21 rdX5_faultOfText_7 (fun H locs w => ?_)
  refine lv_aload_n hx hb rdX5_faultOfText_10 rfl (lv_at hl 0 rfl) ?_
  refine k_Vv F w (As := []) (rest := []) (a := 4) (kd_lt (a := 4) (show kd 4 = (5, 0, 0) from rfl) (by decide)) (sh_5 rfl _ _) rfl (s_X5_step hT (isTc.o (isTc.o hTc (by decide) (by decide)) (by decide) (by decide)) (E := 0) (Nat.zero_le _) st_at) rgv_X5_36 rhv_X5_step ⟨(Nat.le_of_ble_eq_true rfl), (Nat.le_of_ble_eq_true rfl)⟩ hl.1 rfl (Nat.le_of_ble_eq_true rfl) ⟨Nat.zero_le _, Nat.zero_le _⟩ rdX5_faultOfText_11 (fun Ma1 H locs hp w => ?_)
  rcases hp with ⟨hRs, hQs⟩
  refine lp_X5_fault  F hr hlocks (Nat.le_of_ble_eq_true rfl) (Nat.le_of_ble_eq_true rfl) hT (fun i Nm H locs ls x0 x1 x2 x3 w hl => ?_) 8 0 Ma1 (by omega) hRs (isTc.q (isTc.o (isTc.o hTc (by decide) (by decide)) (by decide) (by decide)) hQs) (hQs.2.1.trans ((st_ne (Or.inr (by decide))).trans st_at)) okI_0 isD_0 (FrT.tr (FrT.to (FrT.to FrT.rf (by decide)) (by decide)) (FrT.q hQs)) (by omega) _ _ ls w (lv_sub hl [0] rfl)
  refine lv_iconst (v := zI (-1)) hx hb rdX5_faultOfText_71 rfl ?_
  exact e_i F w hr hlocks ⟨Or.inl ⟨i, x0, rfl, x1, x2⟩, x3⟩ rdX5_faultOfText_72
