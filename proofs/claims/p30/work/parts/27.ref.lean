theorem dX12_fuses_0 : decode cX12_fuses 0 = .ok (.iload_n 1, 1) := wdX12_fuses_0
theorem dX12_fuses_1 : decode cX12_fuses 1 = .ok (.iconst 1, 1) := wdX12_fuses_1
theorem dX12_fuses_2 : decode cX12_fuses 2 = .ok (.iadd, 1) := wdX12_fuses_2
theorem dX12_fuses_3 : decode cX12_fuses 3 = .ok (.aload_n 0, 1) := wdX12_fuses_3
theorem dX12_fuses_4 : decode cX12_fuses 4 = .ok (.getfield 17, 3) := wdX12_fuses_4
theorem dX12_fuses_7 : decode cX12_fuses 7 = .ok (.iconst 0, 1) := wdX12_fuses_7
theorem dX12_fuses_8 : decode cX12_fuses 8 = .ok (.iaload, 1) := wdX12_fuses_8
theorem dX12_fuses_9 : decode cX12_fuses 9 = .ok (.if_icmp .ge 89, 3) := wdX12_fuses_9
theorem dX12_fuses_98 : decode cX12_fuses 98 = .ok (.return_, 1) := wdX12_fuses_98
theorem dX12_fuses_12 : decode cX12_fuses 12 = .ok (.aload_n 0, 1) := wdX12_fuses_12
theorem dX12_fuses_13 : decode cX12_fuses 13 = .ok (.getfield 17, 3) := wdX12_fuses_13
theorem dX12_fuses_16 : decode cX12_fuses 16 = .ok (.iconst 1, 1) := wdX12_fuses_16
theorem dX12_fuses_17 : decode cX12_fuses 17 = .ok (.iload_n 1, 1) := wdX12_fuses_17
theorem dX12_fuses_18 : decode cX12_fuses 18 = .ok (.iadd, 1) := wdX12_fuses_18
theorem dX12_fuses_19 : decode cX12_fuses 19 = .ok (.iconst 1, 1) := wdX12_fuses_19
theorem dX12_fuses_20 : decode cX12_fuses 20 = .ok (.iadd, 1) := wdX12_fuses_20
theorem dX12_fuses_21 : decode cX12_fuses 21 = .ok (.iaload, 1) := wdX12_fuses_21
theorem dX12_fuses_22 : decode cX12_fuses 22 = .ok (.aload_n 0, 1) := wdX12_fuses_22
theorem dX12_fuses_23 : decode cX12_fuses 23 = .ok (.getfield 17, 3) := wdX12_fuses_23
theorem dX12_fuses_26 : decode cX12_fuses 26 = .ok (.iconst 1, 1) := wdX12_fuses_26
theorem dX12_fuses_27 : decode cX12_fuses 27 = .ok (.iload_n 1, 1) := wdX12_fuses_27
theorem dX12_fuses_28 : decode cX12_fuses 28 = .ok (.iadd, 1) := wdX12_fuses_28
theorem dX12_fuses_29 : decode cX12_fuses 29 = .ok (.iaload, 1) := wdX12_fuses_29
theorem dX12_fuses_30 : decode cX12_fuses 30 = .ok (.if_icmp .ne 68, 3) := wdX12_fuses_30
theorem dX12_fuses_33 : decode cX12_fuses 33 = .ok (.aload_n 0, 1) := wdX12_fuses_33
theorem dX12_fuses_34 : decode cX12_fuses 34 = .ok (.getfield 17, 3) := wdX12_fuses_34
theorem dX12_fuses_37 : decode cX12_fuses 37 = .ok (.bipush 13, 2) := wdX12_fuses_37
theorem dX12_fuses_39 : decode cX12_fuses 39 = .ok (.iload_n 1, 1) := wdX12_fuses_39
theorem dX12_fuses_40 : decode cX12_fuses 40 = .ok (.iadd, 1) := wdX12_fuses_40
theorem dX12_fuses_41 : decode cX12_fuses 41 = .ok (.iconst 1, 1) := wdX12_fuses_41
theorem dX12_fuses_42 : decode cX12_fuses 42 = .ok (.iadd, 1) := wdX12_fuses_42
theorem dX12_fuses_43 : decode cX12_fuses 43 = .ok (.iaload, 1) := wdX12_fuses_43
theorem dX12_fuses_44 : decode cX12_fuses 44 = .ok (.aload_n 0, 1) := wdX12_fuses_44
theorem dX12_fuses_45 : decode cX12_fuses 45 = .ok (.getfield 17, 3) := wdX12_fuses_45
theorem dX12_fuses_48 : decode cX12_fuses 48 = .ok (.bipush 13, 2) := wdX12_fuses_48
theorem dX12_fuses_50 : decode cX12_fuses 50 = .ok (.iload_n 1, 1) := wdX12_fuses_50
theorem dX12_fuses_51 : decode cX12_fuses 51 = .ok (.iadd, 1) := wdX12_fuses_51
theorem dX12_fuses_52 : decode cX12_fuses 52 = .ok (.iaload, 1) := wdX12_fuses_52
theorem dX12_fuses_53 : decode cX12_fuses 53 = .ok (.iconst (-1), 1) := wdX12_fuses_53
theorem dX12_fuses_54 : decode cX12_fuses 54 = .ok (.ixor, 1) := wdX12_fuses_54
theorem dX12_fuses_55 : decode cX12_fuses 55 = .ok (.iand, 1) := wdX12_fuses_55
theorem dX12_fuses_56 : decode cX12_fuses 56 = .ok (.istore_n 2, 1) := wdX12_fuses_56
theorem dX12_fuses_57 : decode cX12_fuses 57 = .ok (.aload_n 0, 1) := wdX12_fuses_57
theorem dX12_fuses_58 : decode cX12_fuses 58 = .ok (.dup, 1) := wdX12_fuses_58
theorem dX12_fuses_59 : decode cX12_fuses 59 = .ok (.getfield 66, 3) := wdX12_fuses_59
theorem dX12_fuses_62 : decode cX12_fuses 62 = .ok (.iload_n 2, 1) := wdX12_fuses_62
theorem dX12_fuses_63 : decode cX12_fuses 63 = .ok (.invokestatic 76, 3) := wdX12_fuses_63
theorem dX12_fuses_66 : decode cX12_fuses 66 = .ok (.iconst 1, 1) := wdX12_fuses_66
theorem dX12_fuses_67 : decode cX12_fuses 67 = .ok (.iadd, 1) := wdX12_fuses_67
theorem dX12_fuses_68 : decode cX12_fuses 68 = .ok (.iadd, 1) := wdX12_fuses_68
theorem dX12_fuses_69 : decode cX12_fuses 69 = .ok (.putfield 66, 3) := wdX12_fuses_69
theorem dX12_fuses_72 : decode cX12_fuses 72 = .ok (.aload_n 0, 1) := wdX12_fuses_72
theorem dX12_fuses_73 : decode cX12_fuses 73 = .ok (.getfield 17, 3) := wdX12_fuses_73
theorem dX12_fuses_76 : decode cX12_fuses 76 = .ok (.bipush 13, 2) := wdX12_fuses_76
theorem dX12_fuses_78 : decode cX12_fuses 78 = .ok (.iload_n 1, 1) := wdX12_fuses_78
theorem dX12_fuses_79 : decode cX12_fuses 79 = .ok (.iadd, 1) := wdX12_fuses_79
theorem dX12_fuses_80 : decode cX12_fuses 80 = .ok (.dup2, 1) := wdX12_fuses_80
theorem dX12_fuses_81 : decode cX12_fuses 81 = .ok (.iaload, 1) := wdX12_fuses_81
theorem dX12_fuses_82 : decode cX12_fuses 82 = .ok (.iload_n 2, 1) := wdX12_fuses_82
theorem dX12_fuses_83 : decode cX12_fuses 83 = .ok (.ior, 1) := wdX12_fuses_83
theorem dX12_fuses_84 : decode cX12_fuses 84 = .ok (.iastore, 1) := wdX12_fuses_84
theorem dX12_fuses_85 : decode cX12_fuses 85 = .ok (.aload_n 0, 1) := wdX12_fuses_85
theorem dX12_fuses_86 : decode cX12_fuses 86 = .ok (.getfield 17, 3) := wdX12_fuses_86
theorem dX12_fuses_89 : decode cX12_fuses 89 = .ok (.iload_n 1, 1) := wdX12_fuses_89
theorem dX12_fuses_90 : decode cX12_fuses 90 = .ok (.iconst 1, 1) := wdX12_fuses_90
theorem dX12_fuses_91 : decode cX12_fuses 91 = .ok (.iadd, 1) := wdX12_fuses_91
theorem dX12_fuses_92 : decode cX12_fuses 92 = .ok (.invokestatic 108, 3) := wdX12_fuses_92
theorem tk_X12_remove : Cond.code yX12_remove cX12_remove 3 none ∈ TB := wtk_X12_remove
theorem gc_X12_remove : GoodIn TB (cw yX12_remove cX12_remove 3 none) := goodIn_c2 tk_X12_remove
theorem tb_538 : Cond.methodLink "ToneLinesModel" 108 yX12_remove ∈ TB := wtb_126
theorem tb_539 : Cond.static yX12_remove ∈ TB := wtb_127
theorem gs_X12_108 : GoodIn TB (va_wsS RX12 108 yX12_remove (cw yX12_remove cX12_remove 3 none)) := goodIn_3 tb_538 tb_539 tb_38 gc_X12_remove
theorem hs_X12_remove : yX12_remove.cls ≠ "java/lang/invoke/MethodHandle" ∧ yX12_remove.cls ≠ "java/lang/invoke/VarHandle" ∧ (parseMethodDescriptor yX12_remove.desc).map (fun d => d.parameters.length) = some 2 := whs_X12_remove
theorem dX12_fuses_95 : decode cX12_fuses 95 = .ok (.goto (-95), 3) := wdX12_fuses_95
set_option maxRecDepth 4000 in
theorem q_X12_fuses {l : Launch} {D : va_G} {B : Nat} {cy : Nat → ClassId} {M : Mem} {t : Int} (ht : 0 ≤ t ∧ t ≤ 11) {nn : Int} (hgnn : M.1 148 0 = zI nn) (hnn : 0 ≤ nn ∧ nn ≤ 12) (hpre0 : t < nn) (hI : IvR M) : Cv l D B cy yX12_fuses cX12_fuses 3 1 22 [.ref (B + 146), .int (zI t)] M (fun M1 => (∃ n2 : Int, M1.1 148 0 = zI n2 ∧ ((0 ≤ n2 ∧ n2 ≤ 12) ∧ n2 ≤ nn)) ∧ IvR M1 ∧ Fr (fun b9 k9 => (b9 = 146 ∧ k9 = 3) ∨ b9 = 148) M1 M) := by
  refine s_anyQ (by decide) (Nat.le_of_ble_eq_true rfl) ?_
  intro p e s m args below meth c ls Q F hr hlocks hQ w hl
  have F : CallFix p m c cX12_fuses 3 s args TB RX12 := F
  have hx := F.1
  have hb := F.2.1
  have hl : lv_has ls 3 [(0, .ref (B + 146)), (1, .int (zI t))] := hl
  have hF : Fr (fun b9 k9 => (b9 = 146 ∧ k9 = 3) ∨ b9 = 148) M M := Fr.rf
  have lp0 : ∀ (f : Nat)  (g148_0_0 : Int) (NL0 : Mem), (0 ≤ g148_0_0 ∧ g148_0_0 ≤ 12) → NL0.1 148 0 = zI g148_0_0 → (g148_0_0 ≤ nn) → IvR NL0 → Fr (fun b9 k9 => (b9 = 146 ∧ k9 = 3) ∨ b9 = 148) NL0 M → (Int.toNat g148_0_0 < f) → ∀ (H : Heap) (locs : List Loc) (ls : Array Slot), Wd D B cy s s.heap NL0 H locs → lv_has ls 3 [(0, .ref (B + 146)), (1, .int (zI t))] → W p l e (rmm 1 22) s m args below meth c H locs 0 0 Q (F0 m 0 ls []) := by
    intro f
    induction f with
    | zero => intros; omega
    | succ f ih0 =>
      intro  g148_0_0 NL0 ig148_0_0 eg148_0_0 y0_0 hIL0 hFL0 hf0 H locs ls w hl
      refine lv_iload_n hx hb dX12_fuses_0 rfl (lv_at hl 1 rfl) ?_
      refine lv_iconst (v := zI 1) hx hb dX12_fuses_1 rfl ?_
      refine z_iadd (z := (t + 1)) hx hb dX12_fuses_2 (by omega) ?_
      refine lv_aload_n hx hb dX12_fuses_3 rfl (lv_at hl 0 rfl) ?_
      refine f_12_2 F w (a := 146) rfl tb_45 dX12_fuses_4 ?_
      refine lv_iconst (v := zI 0) hx hb dX12_fuses_7 rfl ?_
      refine g_iald F w (a := 148) rfl (j := 0) ⟨by decide, by decide⟩ (by omega) dX12_fuses_8 ?_
      refine r_val (v := zI g148_0_0) (eg148_0_0) ?_
      refine z_icmp_ge (tgt := 98) hx hb (by omega) (by omega) dX12_fuses_9 (by decide) (fun c1 => ?_) (fun c1 => ?_)
      · rw [hQ]
        exact e_v F w hr hlocks ⟨⟨g148_0_0, (eg148_0_0), ⟨by omega, by omega⟩, (by omega)⟩, hIL0, hFL0⟩ dX12_fuses_98
      · refine lv_aload_n hx hb dX12_fuses_12 rfl (lv_at hl 0 rfl) ?_
        refine f_12_2 F w (a := 146) rfl tb_45 dX12_fuses_13 ?_
        refine lv_iconst (v := zI 1) hx hb dX12_fuses_16 rfl ?_
        refine lv_iload_n hx hb dX12_fuses_17 rfl (lv_at hl 1 rfl) ?_
        refine z_iadd (z := (t + 1)) hx hb dX12_fuses_18 (by omega) ?_
        refine lv_iconst (v := zI 1) hx hb dX12_fuses_19 rfl ?_
        refine z_iadd (z := (t + 2)) hx hb dX12_fuses_20 (by omega) ?_
        refine g_iald F w (a := 148) rfl (j := (Int.toNat (t + 2))) (ix_z (by omega) (by omega)) (by omega) dX12_fuses_21 ?_
        obtain ⟨z2, bz2, ez2⟩ := IvR.ld (k := (Int.toNat (t + 2))) hIL0 (wiv_k (a := 148) (k := (Int.toNat (t + 2))) (by omega) (by omega)) (show 146 ≤ 148 ∧ 148 < 159 by decide)
        refine r_val ez2 ?_
        refine lv_aload_n hx hb dX12_fuses_22 rfl (lv_at hl 0 rfl) ?_
        refine f_12_2 F w (a := 146) rfl tb_45 dX12_fuses_23 ?_
        refine lv_iconst (v := zI 1) hx hb dX12_fuses_26 rfl ?_
        refine lv_iload_n hx hb dX12_fuses_27 rfl (lv_at hl 1 rfl) ?_
        refine z_iadd (z := (t + 1)) hx hb dX12_fuses_28 (by omega) ?_
        refine g_iald F w (a := 148) rfl (j := (Int.toNat (t + 1))) (ix_z (by omega) (by omega)) (by omega) dX12_fuses_29 ?_
        obtain ⟨z3, bz3, ez3⟩ := IvR.ld (k := (Int.toNat (t + 1))) hIL0 (wiv_k (a := 148) (k := (Int.toNat (t + 1))) (by omega) (by omega)) (show 146 ≤ 148 ∧ 148 < 159 by decide)
        refine r_val ez3 ?_
        refine z_icmp_ne (tgt := 98) hx hb (by omega) (by omega) dX12_fuses_30 (by decide) (fun c4 => ?_) (fun c4 => ?_)
        · rw [hQ]
          exact e_v F w hr hlocks ⟨⟨g148_0_0, (eg148_0_0), ⟨by omega, by omega⟩, (by omega)⟩, hIL0, hFL0⟩ dX12_fuses_98
        · refine lv_aload_n hx hb dX12_fuses_33 rfl (lv_at hl 0 rfl) ?_
          refine f_12_2 F w (a := 146) rfl tb_45 dX12_fuses_34 ?_
          refine lv_bipush (v := zI 13) hx hb dX12_fuses_37 (by decide) ?_
          refine lv_iload_n hx hb dX12_fuses_39 rfl (lv_at hl 1 rfl) ?_
          refine z_iadd (z := (t + 13)) hx hb dX12_fuses_40 (by omega) ?_
          refine lv_iconst (v := zI 1) hx hb dX12_fuses_41 rfl ?_
          refine z_iadd (z := (t + 14)) hx hb dX12_fuses_42 (by omega) ?_
          refine g_iald F w (a := 148) rfl (j := (13 + Int.toNat (t + 1))) (ix_l (t := (t + 1)) (by omega) (by omega)) (by omega) dX12_fuses_43 ?_
          obtain ⟨z5, bz5, ez5⟩ := IvR.ld (k := (13 + Int.toNat (t + 1))) hIL0 (wiv_l (a := 148) (k := (13 + Int.toNat (t + 1))) (by omega) (by omega)) (show 146 ≤ 148 ∧ 148 < 159 by decide)
          refine r_val ez5 ?_
          refine lv_aload_n hx hb dX12_fuses_44 rfl (lv_at hl 0 rfl) ?_
          refine f_12_2 F w (a := 146) rfl tb_45 dX12_fuses_45 ?_
          refine lv_bipush (v := zI 13) hx hb dX12_fuses_48 (by decide) ?_
          refine lv_iload_n hx hb dX12_fuses_50 rfl (lv_at hl 1 rfl) ?_
          refine z_iadd (z := (t + 13)) hx hb dX12_fuses_51 (by omega) ?_
          refine g_iald F w (a := 148) rfl (j := (13 + Int.toNat t)) (ix_l (t := t) (by omega) (by omega)) (by omega) dX12_fuses_52 ?_
          obtain ⟨z6, bz6, ez6⟩ := IvR.ld (k := (13 + Int.toNat t)) hIL0 (wiv_l (a := 148) (k := (13 + Int.toNat t)) (by omega) (by omega)) (show 146 ≤ 148 ∧ 148 < 159 by decide)
          refine r_val ez6 ?_
          refine lv_iconst (v := zI (-1)) hx hb dX12_fuses_53 rfl ?_
          refine lv_ixor hx hb dX12_fuses_54 ?_
          refine r_val (not_ex z6) ?_
          obtain ⟨z7, bz7, x0z7, x1z7, ez7⟩ := and_ex z5 (-z6 - 1) (by omega) (by omega)
          refine lv_iand hx hb dX12_fuses_55 ?_
          refine r_val ez7 ?_
          refine lv_istore_n (lv' := [(2, .int (zI z7)), (0, .ref (B + 146)), (1, .int (zI t))]) hx hb dX12_fuses_56 rfl hl (by decide) rfl (fun ls hl => ?_)
          refine lv_aload_n hx hb dX12_fuses_57 rfl (lv_at hl 1 rfl) ?_
          refine lv_dup hx hb dX12_fuses_58 rfl ?_
          refine f_12_3 F w (a := 146) rfl tb_46 dX12_fuses_59 ?_
          obtain ⟨z8, bz8, ez8⟩ := IvR.ld (k := 3) hIL0 (show ivr 146 3 = ((-2147483648), 2147483647) from rfl) (show 146 ≤ 146 ∧ 146 < 159 by decide)
          refine r_val ez8 ?_
          refine lv_iload_n hx hb dX12_fuses_62 rfl (lv_at hl 0 rfl) ?_
          refine k_Si F w (As := [.int (zI z7)]) (rest := [.int (zI z8), .ref (B + 146)]) (q_bitsOf (x := z7) ⟨by omega, by omega⟩ ) gs_X12_76 hs_X12_bitsOf ⟨(Nat.le_of_ble_eq_true rfl), (Nat.le_of_ble_eq_true rfl)⟩ hl.1 rfl (Nat.le_of_ble_eq_true rfl) ⟨Nat.zero_le _, Nat.zero_le _⟩ dX12_fuses_63 (fun r9 N10 H locs hp w => ?_)
          obtain ⟨hrz11, hMz11⟩ := hp
          rw [hMz11] at w
          obtain ⟨z11, bz11, xz11, ez11⟩ := pop2_ex z7 (by omega)
          refine r_val (hrz11.trans ez11) ?_
          refine lv_iconst (v := zI 1) hx hb dX12_fuses_66 rfl ?_
          refine z_iadd (z := (z11 + 1)) hx hb dX12_fuses_67 (by omega) ?_
          obtain ⟨z12, bz12, x0z12, ez12⟩ := add_ex z8 (z11 + 1)
          refine lv_iadd hx hb dX12_fuses_68 ?_
          refine r_val ez12 ?_
          refine u_12_3 F w (a := 146) rfl tb_46 dX12_fuses_69 (fun H locs w => ?_)
          refine lv_aload_n hx hb dX12_fuses_72 rfl (lv_at hl 1 rfl) ?_
          refine f_12_2 F w (a := 146) rfl tb_45 dX12_fuses_73 ?_
          refine lv_bipush (v := zI 13) hx hb dX12_fuses_76 (by decide) ?_
          refine lv_iload_n hx hb dX12_fuses_78 rfl (lv_at hl 2 rfl) ?_
          refine z_iadd (z := (t + 13)) hx hb dX12_fuses_79 (by omega) ?_
          refine lv_dup2_11 hx hb dX12_fuses_80 rfl rfl ?_
          refine g_iald F w (a := 148) rfl (j := (13 + Int.toNat t)) (ix_l (t := t) (by omega) (by omega)) (by omega) dX12_fuses_81 ?_
          refine r_val (v := zI z6) ((st_ne (Or.inl (by decide))).trans ez6) ?_
          refine lv_iload_n hx hb dX12_fuses_82 rfl (lv_at hl 0 rfl) ?_
          obtain ⟨z13, bz13, x0z13, ez13⟩ := or_ex z6 z7
          refine lv_ior hx hb dX12_fuses_83 ?_
          refine r_val ez13 ?_
          refine g_iast F w (a := 148) rfl (j := (13 + Int.toNat t)) (ix_l (t := t) (by omega) (by omega)) (by omega) dX12_fuses_84 (fun H locs w => ?_)
          refine lv_aload_n hx hb dX12_fuses_85 rfl (lv_at hl 1 rfl) ?_
          refine f_12_2 F w (a := 146) rfl tb_45 dX12_fuses_86 ?_
          refine lv_iload_n hx hb dX12_fuses_89 rfl (lv_at hl 2 rfl) ?_
          refine lv_iconst (v := zI 1) hx hb dX12_fuses_90 rfl ?_
          refine z_iadd (z := (t + 1)) hx hb dX12_fuses_91 (by omega) ?_
          refine k_Sv F w (As := [.ref (B + 148), .int (zI (t + 1))]) (rest := []) (q_remM (t := (t + 1)) (by omega) (nn := g148_0_0) ((st_ne (Or.inr (by omega))).trans ((st_ne (Or.inl (by decide))).trans eg148_0_0)) (by omega) (by omega)) gs_X12_108 hs_X12_remove ⟨(Nat.le_of_ble_eq_true rfl), (Nat.le_of_ble_eq_true rfl)⟩ hl.1 rfl (Nat.le_of_ble_eq_true rfl) ⟨Nat.zero_le _, Nat.zero_le _⟩ dX12_fuses_92 (fun N14 H locs hp w => ?_)
          have hfz := fus_ok (M := (st NL0 146 3 (zI z12))) (n := Int.toNat g148_0_0) (t := Int.toNat t) (x := z13) (y := zI (-z6 - 1)) (IvR.to hIL0 (a := 146) (k := 3) (x := z12) (show ivr 146 3 = ((-2147483648), 2147483647) from rfl) ⟨by omega, by omega⟩ ⟨by decide, by decide, by decide, fun q9 => absurd q9 (by decide)⟩) (by rw [show ((Int.toNat g148_0_0 : Nat) : Int) = g148_0_0 by omega]; exact ((st_ne (Or.inl (by decide))).trans eg148_0_0)) (by omega) (by omega) (or_eq ((st_ne (Or.inl (by decide))).trans ez6) (and_eq (by rw [show 13 + (Int.toNat t + 1) = (13 + Int.toNat (t + 1)) by omega]; exact ((st_ne (Or.inl (by decide))).trans ez5)) ez7) ez13) (by omega)
          rw [show ((Int.toNat g148_0_0 : Nat) : Int) = g148_0_0 by omega, show Int.toNat t + 1 = Int.toNat (t + 1) by omega, ← hp] at hfz
          obtain ⟨yN14, hIN14, hfN14⟩ := hfz
          have hFN14 := Fr.tr (Fr.to hFL0 (by first | decide | (dsimp only; first | done | decide | omega) | omega)) hfN14 (S := (fun b9 k9 => (b9 = 146 ∧ k9 = 3) ∨ b9 = 148)) (fun b k h => by first | (dsimp only at h ⊢; omega) | omega)
          refine lv_goto (tgt := 0) hx hb dX12_fuses_95 (by decide) ?_
          exact ih0 (g148_0_0 - 1) N14  (by omega) (yN14) (by omega) hIN14 hFN14 (by omega) _ _ _ w (lv_sub hl [1, 2] rfl)
  exact lp0 _ nn M (by omega) (hgnn) (by omega) hI hF (Nat.lt_succ_self _) _ _ _ w (lv_sub hl [0, 1] rfl)
theorem dX12_fills_0 : decode cX12_fills 0 = .ok (.aload_n 0, 1) := wdX12_fills_0
theorem dX12_fills_1 : decode cX12_fills 1 = .ok (.iload_n 1, 1) := wdX12_fills_1
theorem dX12_fills_2 : decode cX12_fills 2 = .ok (.invokevirtual 82, 3) := wdX12_fills_2
theorem dX12_fills_5 : decode cX12_fills 5 = .ok (.ifCond .eq 14, 3) := wdX12_fills_5
theorem dX12_fills_19 : decode cX12_fills 19 = .ok (.return_, 1) := wdX12_fills_19
theorem dX12_fills_8 : decode cX12_fills 8 = .ok (.aload_n 0, 1) := wdX12_fills_8
theorem dX12_fills_9 : decode cX12_fills 9 = .ok (.getfield 17, 3) := wdX12_fills_9
theorem dX12_fills_12 : decode cX12_fills 12 = .ok (.iconst 0, 1) := wdX12_fills_12
theorem dX12_fills_13 : decode cX12_fills 13 = .ok (.iaload, 1) := wdX12_fills_13
theorem dX12_fills_14 : decode cX12_fills 14 = .ok (.bipush 12, 2) := wdX12_fills_14
theorem dX12_fills_16 : decode cX12_fills 16 = .ok (.if_icmp .ne 4, 3) := wdX12_fills_16
theorem dX12_fills_20 : decode cX12_fills 20 = .ok (.iconst 0, 1) := wdX12_fills_20
theorem dX12_fills_21 : decode cX12_fills 21 = .ok (.istore_n 3, 1) := wdX12_fills_21
theorem dX12_fills_22 : decode cX12_fills 22 = .ok (.iconst 0, 1) := wdX12_fills_22
theorem dX12_fills_23 : decode cX12_fills 23 = .ok (.istore 4, 2) := wdX12_fills_23
theorem dX12_fills_25 : decode cX12_fills 25 = .ok (.iload 4, 2) := wdX12_fills_25
theorem dX12_fills_27 : decode cX12_fills 27 = .ok (.aload_n 0, 1) := wdX12_fills_27
theorem dX12_fills_28 : decode cX12_fills 28 = .ok (.getfield 17, 3) := wdX12_fills_28
theorem dX12_fills_31 : decode cX12_fills 31 = .ok (.iconst 0, 1) := wdX12_fills_31
theorem dX12_fills_32 : decode cX12_fills 32 = .ok (.iaload, 1) := wdX12_fills_32
theorem dX12_fills_33 : decode cX12_fills 33 = .ok (.if_icmp .ge 33, 3) := wdX12_fills_33
theorem dX12_fills_66 : decode cX12_fills 66 = .ok (.aload_n 0, 1) := wdX12_fills_66
theorem dX12_fills_67 : decode cX12_fills 67 = .ok (.getfield 17, 3) := wdX12_fills_67
theorem dX12_fills_70 : decode cX12_fills 70 = .ok (.iload_n 3, 1) := wdX12_fills_70
theorem dX12_fills_71 : decode cX12_fills 71 = .ok (.iload_n 2, 1) := wdX12_fills_71
theorem dX12_fills_72 : decode cX12_fills 72 = .ok (.invokestatic 112, 3) := wdX12_fills_72
theorem tk_X12_insert : Cond.code yX12_insert cX12_insert 4 none ∈ TB := wtk_X12_insert
theorem gc_X12_insert : GoodIn TB (cw yX12_insert cX12_insert 4 none) := goodIn_c2 tk_X12_insert
theorem tb_540 : Cond.methodLink "ToneLinesModel" 112 yX12_insert ∈ TB := wtb_136
theorem tb_541 : Cond.static yX12_insert ∈ TB := wtb_137
theorem gs_X12_112 : GoodIn TB (va_wsS RX12 112 yX12_insert (cw yX12_insert cX12_insert 4 none)) := goodIn_3 tb_540 tb_541 tb_38 gc_X12_insert
theorem hs_X12_insert : yX12_insert.cls ≠ "java/lang/invoke/MethodHandle" ∧ yX12_insert.cls ≠ "java/lang/invoke/VarHandle" ∧ (parseMethodDescriptor yX12_insert.desc).map (fun d => d.parameters.length) = some 3 := whs_X12_insert
theorem dX12_fills_75 : decode cX12_fills 75 = .ok (.aload_n 0, 1) := wdX12_fills_75
theorem dX12_fills_76 : decode cX12_fills 76 = .ok (.getfield 17, 3) := wdX12_fills_76
theorem dX12_fills_79 : decode cX12_fills 79 = .ok (.iload_n 3, 1) := wdX12_fills_79
theorem dX12_fills_80 : decode cX12_fills 80 = .ok (.iload_n 1, 1) := wdX12_fills_80
theorem dX12_fills_81 : decode cX12_fills 81 = .ok (.invokestatic 86, 3) := wdX12_fills_81
theorem dX12_fills_84 : decode cX12_fills 84 = .ok (.ifCond .eq 22, 3) := wdX12_fills_84
theorem dX12_fills_106 : decode cX12_fills 106 = .ok (.aload_n 0, 1) := wdX12_fills_106
theorem dX12_fills_107 : decode cX12_fills 107 = .ok (.getfield 17, 3) := wdX12_fills_107
theorem dX12_fills_110 : decode cX12_fills 110 = .ok (.iload_n 3, 1) := wdX12_fills_110
theorem dX12_fills_111 : decode cX12_fills 111 = .ok (.invokestatic 108, 3) := wdX12_fills_111
theorem dX12_fills_114 : decode cX12_fills 114 = .ok (.return_, 1) := wdX12_fills_114
theorem dX12_fills_87 : decode cX12_fills 87 = .ok (.aload_n 0, 1) := wdX12_fills_87
theorem dX12_fills_88 : decode cX12_fills 88 = .ok (.iload_n 3, 1) := wdX12_fills_88
theorem dX12_fills_89 : decode cX12_fills 89 = .ok (.iload_n 1, 1) := wdX12_fills_89
theorem dX12_fills_90 : decode cX12_fills 90 = .ok (.invokevirtual 90, 3) := wdX12_fills_90
theorem dX12_fills_93 : decode cX12_fills 93 = .ok (.aload_n 0, 1) := wdX12_fills_93
theorem dX12_fills_94 : decode cX12_fills 94 = .ok (.dup, 1) := wdX12_fills_94
theorem dX12_fills_95 : decode cX12_fills 95 = .ok (.getfield 66, 3) := wdX12_fills_95
theorem dX12_fills_98 : decode cX12_fills 98 = .ok (.iconst 1, 1) := wdX12_fills_98
theorem dX12_fills_99 : decode cX12_fills 99 = .ok (.iadd, 1) := wdX12_fills_99
theorem dX12_fills_100 : decode cX12_fills 100 = .ok (.putfield 66, 3) := wdX12_fills_100
theorem dX12_fills_103 : decode cX12_fills 103 = .ok (.goto 11, 3) := wdX12_fills_103
theorem dX12_fills_36 : decode cX12_fills 36 = .ok (.aload_n 0, 1) := wdX12_fills_36
theorem dX12_fills_37 : decode cX12_fills 37 = .ok (.getfield 17, 3) := wdX12_fills_37
theorem dX12_fills_40 : decode cX12_fills 40 = .ok (.bipush 13, 2) := wdX12_fills_40
theorem dX12_fills_42 : decode cX12_fills 42 = .ok (.iload 4, 2) := wdX12_fills_42
theorem dX12_fills_44 : decode cX12_fills 44 = .ok (.iadd, 1) := wdX12_fills_44
theorem dX12_fills_45 : decode cX12_fills 45 = .ok (.iaload, 1) := wdX12_fills_45
theorem dX12_fills_46 : decode cX12_fills 46 = .ok (.iconst 1, 1) := wdX12_fills_46
theorem dX12_fills_47 : decode cX12_fills 47 = .ok (.iload_n 1, 1) := wdX12_fills_47
theorem dX12_fills_48 : decode cX12_fills 48 = .ok (.ishl, 1) := wdX12_fills_48
theorem dX12_fills_49 : decode cX12_fills 49 = .ok (.iconst 1, 1) := wdX12_fills_49
theorem dX12_fills_50 : decode cX12_fills 50 = .ok (.isub, 1) := wdX12_fills_50
theorem dX12_fills_51 : decode cX12_fills 51 = .ok (.iand, 1) := wdX12_fills_51
theorem dX12_fills_52 : decode cX12_fills 52 = .ok (.ifCond .eq 8, 3) := wdX12_fills_52
theorem dX12_fills_60 : decode cX12_fills 60 = .ok (.iinc 4 1, 3) := wdX12_fills_60
theorem dX12_fills_63 : decode cX12_fills 63 = .ok (.goto (-38), 3) := wdX12_fills_63
theorem dX12_fills_55 : decode cX12_fills 55 = .ok (.iload 4, 2) := wdX12_fills_55
theorem dX12_fills_57 : decode cX12_fills 57 = .ok (.iconst 1, 1) := wdX12_fills_57
theorem dX12_fills_58 : decode cX12_fills 58 = .ok (.iadd, 1) := wdX12_fills_58
theorem dX12_fills_59 : decode cX12_fills 59 = .ok (.istore_n 3, 1) := wdX12_fills_59
set_option maxRecDepth 4000 in
theorem q_X12_fills {l : Launch} {D : va_G} {B : Nat} {cy : Nat → ClassId} {M : Mem} {y : Int} (hy : 0 ≤ y ∧ y ≤ 11) {x : Int} (hx : (-99) ≤ x ∧ x ≤ 300) {nn : Int} (hgnn : M.1 148 0 = zI nn) (hnn : 0 ≤ nn ∧ nn ≤ 12) (hI : IvR M) : Cv l D B cy yX12_fills cX12_fills 5 3 66 [.ref (B + 146), .int (zI y), .int (zI x)] M (fun M1 => IvR M1 ∧ Fr (fun b9 k9 => (b9 = 146 ∧ k9 = 3) ∨ b9 = 148) M1 M) := by
  refine s_anyQ (by decide) (Nat.le_of_ble_eq_true rfl) ?_
  intro p e s m args below meth c ls Q F hr hlocks hQ w hl
  have F : CallFix p m c cX12_fills 5 s args TB RX12 := F
  have hx := F.1
  have hb := F.2.1
  have hl : lv_has ls 5 [(0, .ref (B + 146)), (1, .int (zI y)), (2, .int (zI x))] := hl
  have hF : Fr (fun b9 k9 => (b9 = 146 ∧ k9 = 3) ∨ b9 = 148) M M := Fr.rf
  refine lv_aload_n hx hb dX12_fills_0 rfl (lv_at hl 0 rfl) ?_
  refine lv_iload_n hx hb dX12_fills_1 rfl (lv_at hl 1 rfl) ?_
  refine k_Vi F w (As := [.int (zI y)]) (rest := []) (a := 146) (kd_lt (a := 146) (show kd 146 = (12, 0, 0) from rfl) (by decide)) (sh_12 rfl _ _) rfl (q_X12_isBare (y := y) ⟨by omega, by omega⟩  hI) gv_X12_82 hv_X12_isBare ⟨(Nat.le_of_ble_eq_true rfl), (Nat.le_of_ble_eq_true rfl)⟩ hl.1 rfl (Nat.le_of_ble_eq_true rfl) ⟨Nat.zero_le _, Nat.zero_le _⟩ dX12_fills_2 (fun r1 N2 H locs hp w => ?_)
  obtain ⟨z3, rfl, bz3, hMN2⟩ := hp
  rw [hMN2] at w
  refine z_if_eq (tgt := 19) hx hb (by omega) dX12_fills_5 (by decide) (fun c4 => ?_) (fun c4 => ?_)
  · rw [hQ]
    exact e_v F w hr hlocks ⟨hI, hF⟩ dX12_fills_19
  · refine lv_aload_n hx hb dX12_fills_8 rfl (lv_at hl 0 rfl) ?_
    refine f_12_2 F w (a := 146) rfl tb_45 dX12_fills_9 ?_
    refine lv_iconst (v := zI 0) hx hb dX12_fills_12 rfl ?_
    refine g_iald F w (a := 148) rfl (j := 0) ⟨by decide, by decide⟩ (by omega) dX12_fills_13 ?_
    refine r_val (v := zI nn) (hgnn) ?_
    refine lv_bipush (v := zI 12) hx hb dX12_fills_14 (by decide) ?_
    refine z_icmp_ne (tgt := 20) hx hb (by omega) (by omega) dX12_fills_16 (by decide) (fun c5 => ?_) (fun c5 => ?_)
    · refine lv_iconst (v := zI 0) hx hb dX12_fills_20 rfl ?_
      refine lv_istore_n (lv' := [(3, .int (zI 0)), (0, .ref (B + 146)), (1, .int (zI y)), (2, .int (zI x))]) hx hb dX12_fills_21 rfl hl (by decide) rfl (fun ls hl => ?_)
      refine lv_iconst (v := zI 0) hx hb dX12_fills_22 rfl ?_
      refine lv_istore (lv' := [(4, .int (zI 0)), (3, .int (zI 0)), (0, .ref (B + 146)), (1, .int (zI y)), (2, .int (zI x))]) hx hb dX12_fills_23 hl (by decide) rfl (fun ls hl => ?_)
      have lp25 : ∀ (f : Nat) (v4_25 : Int) (v3_25 : Int), (0 ≤ v4_25 ∧ v4_25 ≤ 11) → (0 ≤ v3_25 ∧ v3_25 ≤ 11) → (v3_25 ≤ v4_25 ∧ v4_25 ≤ nn) → (Int.toNat (11 - v4_25) < f) → ∀ (H : Heap) (locs : List Loc) (ls : Array Slot), Wd D B cy s s.heap M H locs → lv_has ls 5 [(4, .int (zI v4_25)), (3, .int (zI v3_25)), (0, .ref (B + 146)), (1, .int (zI y)), (2, .int (zI x))] → W p l e (rmm 3 66) s m args below meth c H locs 0 0 Q (F0 m 25 ls []) := by
        intro f
        induction f with
        | zero => intros; omega
        | succ f ih25 =>
          intro v4_25 v3_25  iv4_25 iv3_25 y25_0 hf25 H locs ls w hl
          refine lv_iload hx hb dX12_fills_25 (lv_at hl 0 rfl) ?_
          refine lv_aload_n hx hb dX12_fills_27 rfl (lv_at hl 2 rfl) ?_
          refine f_12_2 F w (a := 146) rfl tb_45 dX12_fills_28 ?_
          refine lv_iconst (v := zI 0) hx hb dX12_fills_31 rfl ?_
          refine g_iald F w (a := 148) rfl (j := 0) ⟨by decide, by decide⟩ (by omega) dX12_fills_32 ?_
          refine r_val (v := zI nn) (hgnn) ?_
          refine z_icmp_ge (tgt := 66) hx hb (by omega) (by omega) dX12_fills_33 (by decide) (fun c6 => ?_) (fun c6 => ?_)
          · refine lv_aload_n hx hb dX12_fills_66 rfl (lv_at hl 2 rfl) ?_
            refine f_12_2 F w (a := 146) rfl tb_45 dX12_fills_67 ?_
            refine lv_iload_n hx hb dX12_fills_70 rfl (lv_at hl 1 rfl) ?_
            refine lv_iload_n hx hb dX12_fills_71 rfl (lv_at hl 4 rfl) ?_
            refine k_Sv F w (As := [.ref (B + 148), .int (zI v3_25), .int (zI x)]) (rest := []) (q_insert_148 (t := v3_25) ⟨by omega, by omega⟩ (x := x) ⟨by omega, by omega⟩ (nn := nn) (hgnn) ⟨by omega, by omega⟩ (by omega) (by omega) hI) gs_X12_112 hs_X12_insert ⟨(Nat.le_of_ble_eq_true rfl), (Nat.le_of_ble_eq_true rfl)⟩ hl.1 rfl (Nat.le_of_ble_eq_true rfl) ⟨Nat.zero_le _, Nat.zero_le _⟩ dX12_fills_72 (fun N8 H locs hp w => ?_)
            obtain ⟨yN8_148_0, hIN8, hFN8⟩ := hp
            have hGN8 := Fr.tr hF hFN8 (S := (fun b9 k9 => (b9 = 146 ∧ k9 = 3) ∨ b9 = 148)) (fun b k h => by (try dsimp only at h ⊢); rcases h with rfl <;> first | decide | omega)
            refine lv_aload_n hx hb dX12_fills_75 rfl (lv_at hl 2 rfl) ?_
            refine f_12_2 F w (a := 146) rfl tb_45 dX12_fills_76 ?_
            refine lv_iload_n hx hb dX12_fills_79 rfl (lv_at hl 1 rfl) ?_
            refine lv_iload_n hx hb dX12_fills_80 rfl (lv_at hl 3 rfl) ?_
            refine k_Si F w (As := [.ref (B + 148), .int (zI v3_25), .int (zI y)]) (rest := []) (q_isOpen_148 (t := v3_25) ⟨by omega, by omega⟩ (y := y) ⟨by omega, by omega⟩ (nn := (nn + 1)) (yN8_148_0) ⟨by omega, by omega⟩ (by omega) hIN8) gs_X12_86 hs_X12_isOpen ⟨(Nat.le_of_ble_eq_true rfl), (Nat.le_of_ble_eq_true rfl)⟩ hl.1 rfl (Nat.le_of_ble_eq_true rfl) ⟨Nat.zero_le _, Nat.zero_le _⟩ dX12_fills_81 (fun r10 N11 H locs hp w => ?_)
            obtain ⟨z12, rfl, bz12, xz12, hMN11⟩ := hp
            rw [hMN11] at w
            refine z_if_eq (tgt := 106) hx hb (by omega) dX12_fills_84 (by decide) (fun c13 => ?_) (fun c13 => ?_)
            · refine lv_aload_n hx hb dX12_fills_106 rfl (lv_at hl 2 rfl) ?_
              refine f_12_2 F w (a := 146) rfl tb_45 dX12_fills_107 ?_
              refine lv_iload_n hx hb dX12_fills_110 rfl (lv_at hl 1 rfl) ?_
              refine k_Sv F w (As := [.ref (B + 148), .int (zI v3_25)]) (rest := []) (q_remove_148 (t := v3_25) ⟨by omega, by omega⟩ (nn := (nn + 1)) (yN8_148_0) ⟨by omega, by omega⟩ (by omega) hIN8) gs_X12_108 hs_X12_remove ⟨(Nat.le_of_ble_eq_true rfl), (Nat.le_of_ble_eq_true rfl)⟩ hl.1 rfl (Nat.le_of_ble_eq_true rfl) ⟨Nat.zero_le _, Nat.zero_le _⟩ dX12_fills_111 (fun N15 H locs hp w => ?_)
              obtain ⟨yN15_148_0, hIN15, hFN15⟩ := hp
              have hGN15 := Fr.tr hGN8 hFN15 (S := (fun b9 k9 => (b9 = 146 ∧ k9 = 3) ∨ b9 = 148)) (fun b k h => by (try dsimp only at h ⊢); rcases h with rfl <;> first | decide | omega)
              rw [hQ]
              exact e_v F w hr hlocks ⟨hIN15, hGN15⟩ dX12_fills_114
            · refine lv_aload_n hx hb dX12_fills_87 rfl (lv_at hl 2 rfl) ?_
              refine lv_iload_n hx hb dX12_fills_88 rfl (lv_at hl 1 rfl) ?_
              refine lv_iload_n hx hb dX12_fills_89 rfl (lv_at hl 3 rfl) ?_
              refine k_Vv F w (As := [.int (zI v3_25), .int (zI y)]) (rest := []) (a := 146) (kd_lt (a := 146) (show kd 146 = (12, 0, 0) from rfl) (by decide)) (sh_12 rfl _ _) rfl (q_X12_comes (t := v3_25) ⟨by omega, by omega⟩ (y := y) ⟨by omega, by omega⟩ (Or.resolve_left xz12 (by omega)) hIN8) gv_X12_90 hv_X12_comes ⟨(Nat.le_of_ble_eq_true rfl), (Nat.le_of_ble_eq_true rfl)⟩ hl.1 rfl (Nat.le_of_ble_eq_true rfl) ⟨Nat.zero_le _, Nat.zero_le _⟩ dX12_fills_90 (fun N18 H locs hp w => ?_)
              obtain ⟨hIN18, hFN18⟩ := hp
              have hGN18 := Fr.tr hGN8 hFN18 (S := (fun b9 k9 => (b9 = 146 ∧ k9 = 3) ∨ b9 = 148)) (fun b k h => by (try dsimp only at h ⊢); rcases h with ⟨rfl, rfl⟩ | ⟨rfl, q1, q2⟩ <;> first | decide | omega)
              have kn20 : N18.1 148 0 = zI (nn + 1) := (hFN18 148 0 (by first | decide | (dsimp only; first | done | decide | omega) | omega)).trans (yN8_148_0)
              refine lv_aload_n hx hb dX12_fills_93 rfl (lv_at hl 2 rfl) ?_
              refine lv_dup hx hb dX12_fills_94 rfl ?_
              refine f_12_3 F w (a := 146) rfl tb_46 dX12_fills_95 ?_
              obtain ⟨z21, bz21, ez21⟩ := IvR.ld (k := 3) hIN18 (show ivr 146 3 = ((-2147483648), 2147483647) from rfl) (show 146 ≤ 146 ∧ 146 < 159 by decide)
              refine r_val ez21 ?_
              refine lv_iconst (v := zI 1) hx hb dX12_fills_98 rfl ?_
              obtain ⟨z22, bz22, x0z22, ez22⟩ := add_ex z21 1
              refine lv_iadd hx hb dX12_fills_99 ?_
              refine r_val ez22 ?_
              refine u_12_3 F w (a := 146) rfl tb_46 dX12_fills_100 (fun H locs w => ?_)
              refine lv_goto (tgt := 114) hx hb dX12_fills_103 (by decide) ?_
              rw [hQ]
              exact e_v F w hr hlocks ⟨(IvR.to hIN18 (a := 146) (k := 3) (x := z22) (show ivr 146 3 = ((-2147483648), 2147483647) from rfl) ⟨by omega, by omega⟩ ⟨by decide, by decide, by decide, fun q9 => absurd q9 (by decide)⟩), (Fr.to hGN18 (by first | decide | (dsimp only; first | done | decide | omega) | omega))⟩ dX12_fills_114
          · refine lv_aload_n hx hb dX12_fills_36 rfl (lv_at hl 2 rfl) ?_
            refine f_12_2 F w (a := 146) rfl tb_45 dX12_fills_37 ?_
            refine lv_bipush (v := zI 13) hx hb dX12_fills_40 (by decide) ?_
            refine lv_iload hx hb dX12_fills_42 (lv_at hl 0 rfl) ?_
            refine z_iadd (z := (v4_25 + 13)) hx hb dX12_fills_44 (by omega) ?_
            refine g_iald F w (a := 148) rfl (j := (13 + Int.toNat v4_25)) (ix_l (t := v4_25) (by omega) (by omega)) (by omega) dX12_fills_45 ?_
            obtain ⟨z23, bz23, ez23⟩ := IvR.ld (k := (13 + Int.toNat v4_25)) hI (wiv_l (a := 148) (k := (13 + Int.toNat v4_25)) (by omega) (by omega)) (show 146 ≤ 148 ∧ 148 < 159 by decide)
            refine r_val ez23 ?_
            refine lv_iconst (v := zI 1) hx hb dX12_fills_46 rfl ?_
            refine lv_iload_n hx hb dX12_fills_47 rfl (lv_at hl 3 rfl) ?_
            obtain ⟨z24, bz24, x0z24, ez24⟩ := shl_ex 1 y
            refine lv_ishl hx hb dX12_fills_48 ?_
            refine r_val ez24 ?_
            refine lv_iconst (v := zI 1) hx hb dX12_fills_49 rfl ?_
            refine z_isub (z := (z24 - 1)) hx hb dX12_fills_50 (by omega) ?_
            obtain ⟨z25, bz25, x0z25, x1z25, ez25⟩ := and_ex z23 (z24 - 1) (by omega) (by omega)
            refine lv_iand hx hb dX12_fills_51 ?_
            refine r_val ez25 ?_
            refine z_if_eq (tgt := 60) hx hb (by omega) dX12_fills_52 (by decide) (fun c26 => ?_) (fun c26 => ?_)
            · refine z_iinc (v := (v4_25 + 1)) (lv' := [(4, .int (zI (v4_25 + 1))), (3, .int (zI v3_25)), (0, .ref (B + 146)), (1, .int (zI y)), (2, .int (zI x))]) hx hb dX12_fills_60 hl (k := 0) rfl (by omega) (by decide) rfl (fun ls hl => ?_)
              refine lv_goto (tgt := 25) hx hb dX12_fills_63 (by decide) ?_
              exact ih25 (v4_25 + 1) v3_25 (by omega) (by omega)   (by omega)  (by omega) _ _ _ w (lv_sub hl [0, 1, 2, 3, 4] rfl)
            · refine lv_iload hx hb dX12_fills_55 (lv_at hl 0 rfl) ?_
              refine lv_iconst (v := zI 1) hx hb dX12_fills_57 rfl ?_
              refine z_iadd (z := (v4_25 + 1)) hx hb dX12_fills_58 (by omega) ?_
              refine lv_istore_n (lv' := [(3, .int (zI (v4_25 + 1))), (4, .int (zI v4_25)), (0, .ref (B + 146)), (1, .int (zI y)), (2, .int (zI x))]) hx hb dX12_fills_59 rfl hl (by decide) rfl (fun ls hl => ?_)
              refine z_iinc (v := (v4_25 + 1)) (lv' := [(4, .int (zI (v4_25 + 1))), (3, .int (zI (v4_25 + 1))), (0, .ref (B + 146)), (1, .int (zI y)), (2, .int (zI x))]) hx hb dX12_fills_60 hl (k := 1) rfl (by omega) (by decide) rfl (fun ls hl => ?_)
              refine lv_goto (tgt := 25) hx hb dX12_fills_63 (by decide) ?_
              exact ih25 (v4_25 + 1) (v4_25 + 1) (by omega) (by omega)   (by omega)  (by omega) _ _ _ w (lv_sub hl [0, 1, 2, 3, 4] rfl)
      exact lp25 _ 0 0 (by omega) (by omega) (by omega) (Nat.lt_succ_self _) _ _ _ w (lv_sub hl [0, 1, 2, 3, 4] rfl)
    · rw [hQ]
      exact e_v F w hr hlocks ⟨hI, hF⟩ dX12_fills_19
theorem dX12_hasSide_0 : decode cX12_hasSide 0 = .ok (.iload_n 0, 1) := rdX12_hasSide_0
theorem dX12_hasSide_1 : decode cX12_hasSide 1 = .ok (.iconst 2, 1) := rdX12_hasSide_1
theorem dX12_hasSide_2 : decode cX12_hasSide 2 = .ok (.if_icmp .le 8, 3) := rdX12_hasSide_2
theorem dX12_hasSide_10 : decode cX12_hasSide 10 = .ok (.iconst 1, 1) := rdX12_hasSide_10
theorem dX12_hasSide_11 : decode cX12_hasSide 11 = .ok (.goto 4, 3) := rdX12_hasSide_11
theorem dX12_hasSide_15 : decode cX12_hasSide 15 = .ok (.ireturn, 1) := rdX12_hasSide_15
theorem dX12_hasSide_5 : decode cX12_hasSide 5 = .ok (.iload_n 0, 1) := rdX12_hasSide_5
theorem dX12_hasSide_6 : decode cX12_hasSide 6 = .ok (.iconst 4, 1) := rdX12_hasSide_6
theorem dX12_hasSide_7 : decode cX12_hasSide 7 = .ok (.if_icmp .ne 7, 3) := rdX12_hasSide_7
theorem dX12_hasSide_14 : decode cX12_hasSide 14 = .ok (.iconst 0, 1) := rdX12_hasSide_14
set_option maxRecDepth 4000 in
theorem q_X12_hasSide {l : Launch} {D : va_G} {B : Nat} {cy : Nat → ClassId} {M : Mem} {x : Int} (hx : (-2147483648) ≤ x ∧ x ≤ 2147483647) (hI : IvR M) : Ci l D B cy yX12_hasSide cX12_hasSide 1 (some .boolean) 0 0 [.int (zI x)] M (fun r M1 => ∃ z : Int, r = zI z ∧ (0 ≤ z ∧ z ≤ 1) ∧ ((z = 1 ∧ (x ≤ 2 ∨ x = 4)) ∨ (z = 0 ∧ 2 < x ∧ x ≠ 4)) ∧ M1 = M) := by
  refine s_anyQ (by decide) (Nat.le_of_ble_eq_true rfl) ?_
  intro p e s m args below meth c ls Q F hr hlocks hQ w hl
  have F : CallFix p m c cX12_hasSide 1 s args TB RX12 := F
  have hx := F.1
  have hb := F.2.1
  have hl : lv_has ls 1 [(0, .int (zI x))] := hl
  refine lv_iload_n hx hb dX12_hasSide_0 rfl (lv_at hl 0 rfl) ?_
  refine lv_iconst (v := zI 2) hx hb dX12_hasSide_1 rfl ?_
  refine z_icmp_le (tgt := 10) hx hb (by omega) (by omega) dX12_hasSide_2 (by decide) (fun c1 => ?_) (fun c1 => ?_)
  · refine lv_iconst (v := zI 1) hx hb dX12_hasSide_10 rfl ?_
    refine lv_goto (tgt := 15) hx hb dX12_hasSide_11 (by decide) ?_
    rw [hQ]
    exact e_z F w hr hlocks (nar_z (by omega)) ⟨_, rfl, ⟨by omega, by omega⟩, (by omega), rfl⟩ dX12_hasSide_15
  · refine lv_iload_n hx hb dX12_hasSide_5 rfl (lv_at hl 0 rfl) ?_
    refine lv_iconst (v := zI 4) hx hb dX12_hasSide_6 rfl ?_
    refine z_icmp_ne (tgt := 14) hx hb (by omega) (by omega) dX12_hasSide_7 (by decide) (fun c2 => ?_) (fun c2 => ?_)
    · refine lv_iconst (v := zI 0) hx hb dX12_hasSide_14 rfl ?_
      rw [hQ]
      exact e_z F w hr hlocks (nar_z (by omega)) ⟨_, rfl, ⟨by omega, by omega⟩, (by omega), rfl⟩ dX12_hasSide_15
    · refine lv_iconst (v := zI 1) hx hb dX12_hasSide_10 rfl ?_
      refine lv_goto (tgt := 15) hx hb dX12_hasSide_11 (by decide) ?_
      rw [hQ]
      exact e_z F w hr hlocks (nar_z (by omega)) ⟨_, rfl, ⟨by omega, by omega⟩, (by omega), rfl⟩ dX12_hasSide_15
theorem dX12_isBySyllables_0 : decode cX12_isBySyllables 0 = .ok (.iload_n 0, 1) := rdX12_isBySyllables_0
theorem dX12_isBySyllables_1 : decode cX12_isBySyllables 1 = .ok (.ifCond .eq 9, 3) := rdX12_isBySyllables_1
theorem dX12_isBySyllables_10 : decode cX12_isBySyllables 10 = .ok (.iconst 1, 1) := rdX12_isBySyllables_10
theorem dX12_isBySyllables_11 : decode cX12_isBySyllables 11 = .ok (.goto 4, 3) := rdX12_isBySyllables_11
theorem dX12_isBySyllables_15 : decode cX12_isBySyllables 15 = .ok (.ireturn, 1) := rdX12_isBySyllables_15
theorem dX12_isBySyllables_4 : decode cX12_isBySyllables 4 = .ok (.iload_n 0, 1) := rdX12_isBySyllables_4
theorem dX12_isBySyllables_5 : decode cX12_isBySyllables 5 = .ok (.bipush 8, 2) := rdX12_isBySyllables_5
theorem dX12_isBySyllables_7 : decode cX12_isBySyllables 7 = .ok (.if_icmp .lt 7, 3) := rdX12_isBySyllables_7
theorem dX12_isBySyllables_14 : decode cX12_isBySyllables 14 = .ok (.iconst 0, 1) := rdX12_isBySyllables_14
set_option maxRecDepth 4000 in
theorem q_X12_isBySyllables {l : Launch} {D : va_G} {B : Nat} {cy : Nat → ClassId} {M : Mem} {x : Int} (hx : (-2147483648) ≤ x ∧ x ≤ 2147483647) (hI : IvR M) : Ci l D B cy yX12_isBySyllables cX12_isBySyllables 1 (some .boolean) 0 0 [.int (zI x)] M (fun r M1 => ∃ z : Int, r = zI z ∧ (0 ≤ z ∧ z ≤ 1) ∧ ((z = 1 ∧ (x = 0 ∨ 8 ≤ x)) ∨ (z = 0 ∧ x ≠ 0 ∧ x < 8)) ∧ M1 = M) := by
  refine s_anyQ (by decide) (Nat.le_of_ble_eq_true rfl) ?_
  intro p e s m args below meth c ls Q F hr hlocks hQ w hl
  have F : CallFix p m c cX12_isBySyllables 1 s args TB RX12 := F
  have hx := F.1
  have hb := F.2.1
  have hl : lv_has ls 1 [(0, .int (zI x))] := hl
  refine lv_iload_n hx hb dX12_isBySyllables_0 rfl (lv_at hl 0 rfl) ?_
  refine z_if_eq (tgt := 10) hx hb (by omega) dX12_isBySyllables_1 (by decide) (fun c1 => ?_) (fun c1 => ?_)
  · refine lv_iconst (v := zI 1) hx hb dX12_isBySyllables_10 rfl ?_
    refine lv_goto (tgt := 15) hx hb dX12_isBySyllables_11 (by decide) ?_
    rw [hQ]
    exact e_z F w hr hlocks (nar_z (by omega)) ⟨_, rfl, ⟨by omega, by omega⟩, (by omega), rfl⟩ dX12_isBySyllables_15
  · refine lv_iload_n hx hb dX12_isBySyllables_4 rfl (lv_at hl 0 rfl) ?_
    refine lv_bipush (v := zI 8) hx hb dX12_isBySyllables_5 (by decide) ?_
    refine z_icmp_lt (tgt := 14) hx hb (by omega) (by omega) dX12_isBySyllables_7 (by decide) (fun c2 => ?_) (fun c2 => ?_)
    · refine lv_iconst (v := zI 0) hx hb dX12_isBySyllables_14 rfl ?_
      rw [hQ]
      exact e_z F w hr hlocks (nar_z (by omega)) ⟨_, rfl, ⟨by omega, by omega⟩, (by omega), rfl⟩ dX12_isBySyllables_15
    · refine lv_iconst (v := zI 1) hx hb dX12_isBySyllables_10 rfl ?_
      refine lv_goto (tgt := 15) hx hb dX12_isBySyllables_11 (by decide) ?_
      rw [hQ]
      exact e_z F w hr hlocks (nar_z (by omega)) ⟨_, rfl, ⟨by omega, by omega⟩, (by omega), rfl⟩ dX12_isBySyllables_15
theorem dX12_treats_0 : decode cX12_treats 0 = .ok (.bipush 8, 2) := wdX12_treats_0
theorem dX12_treats_2 : decode cX12_treats 2 = .ok (.iload_n 1, 1) := wdX12_treats_2
theorem dX12_treats_3 : decode cX12_treats 3 = .ok (.imul, 1) := wdX12_treats_3
theorem dX12_treats_4 : decode cX12_treats 4 = .ok (.istore_n 3, 1) := wdX12_treats_4
theorem dX12_treats_5 : decode cX12_treats 5 = .ok (.aload_n 0, 1) := wdX12_treats_5
theorem dX12_treats_6 : decode cX12_treats 6 = .ok (.getfield 17, 3) := wdX12_treats_6
theorem dX12_treats_9 : decode cX12_treats 9 = .ok (.iconst 1, 1) := wdX12_treats_9
theorem dX12_treats_10 : decode cX12_treats 10 = .ok (.iload_n 2, 1) := wdX12_treats_10
theorem dX12_treats_11 : decode cX12_treats 11 = .ok (.iadd, 1) := wdX12_treats_11
theorem dX12_treats_12 : decode cX12_treats 12 = .ok (.iaload, 1) := wdX12_treats_12
theorem dX12_treats_13 : decode cX12_treats 13 = .ok (.aload_n 0, 1) := wdX12_treats_13
theorem dX12_treats_14 : decode cX12_treats 14 = .ok (.getfield 20, 3) := wdX12_treats_14
theorem dX12_treats_17 : decode cX12_treats 17 = .ok (.iload_n 3, 1) := wdX12_treats_17
theorem dX12_treats_18 : decode cX12_treats 18 = .ok (.iconst 2, 1) := wdX12_treats_18
theorem dX12_treats_19 : decode cX12_treats 19 = .ok (.iadd, 1) := wdX12_treats_19
theorem dX12_treats_20 : decode cX12_treats 20 = .ok (.iaload, 1) := wdX12_treats_20
theorem dX12_treats_21 : decode cX12_treats 21 = .ok (.invokestatic 79, 3) := wdX12_treats_21
theorem dX12_treats_24 : decode cX12_treats 24 = .ok (.ifCond .eq 12, 3) := wdX12_treats_24
theorem dX12_treats_36 : decode cX12_treats 36 = .ok (.iconst 0, 1) := wdX12_treats_36
theorem dX12_treats_37 : decode cX12_treats 37 = .ok (.ireturn, 1) := wdX12_treats_37
theorem dX12_treats_27 : decode cX12_treats 27 = .ok (.aload_n 0, 1) := wdX12_treats_27
theorem dX12_treats_28 : decode cX12_treats 28 = .ok (.iload_n 1, 1) := wdX12_treats_28
theorem dX12_treats_29 : decode cX12_treats 29 = .ok (.iload_n 2, 1) := wdX12_treats_29
theorem dX12_treats_30 : decode cX12_treats 30 = .ok (.invokevirtual 116, 3) := wdX12_treats_30
theorem tk_X12_passes : Cond.code yX12_passes cX12_passes 4 (some .boolean) ∈ TB := wtk_X12_passes
theorem gc_X12_passes : GoodIn TB (cw yX12_passes cX12_passes 4 (some .boolean)) := goodIn_c2 tk_X12_passes
theorem tb_542 : Cond.methodLink "ToneLinesModel" 116 yX12_passes ∈ TB := wtb_138
theorem tb_543 : Cond.instanceMethod yX12_passes ∈ TB := wtb_139
theorem tb_544 : Cond.selects "ToneLinesModel" yX12_passes yX12_passes ∈ TB := wtb_140
theorem gv_X12_116 : GoodIn TB (wsV RX12 116 RX12 yX12_passes (cw yX12_passes cX12_passes 4 (some .boolean))) := goodIn_4 tb_542 tb_543 tb_544 tb_38 gc_X12_passes
theorem hv_X12_passes : yX12_passes.cls = RX12 ∧ yX12_passes.cls ≠ "java/lang/invoke/MethodHandle" ∧ yX12_passes.cls ≠ "java/lang/invoke/VarHandle" ∧ (parseMethodDescriptor yX12_passes.desc).map (fun d => d.parameters.length) = some 2 := whv_X12_passes
theorem dX12_treats_33 : decode cX12_treats 33 = .ok (.ifCond .ne 5, 3) := wdX12_treats_33
theorem dX12_treats_38 : decode cX12_treats 38 = .ok (.aload_n 0, 1) := wdX12_treats_38
theorem dX12_treats_39 : decode cX12_treats 39 = .ok (.getfield 20, 3) := wdX12_treats_39
theorem dX12_treats_42 : decode cX12_treats 42 = .ok (.iload_n 3, 1) := wdX12_treats_42
theorem dX12_treats_43 : decode cX12_treats 43 = .ok (.iconst 4, 1) := wdX12_treats_43
theorem dX12_treats_44 : decode cX12_treats 44 = .ok (.iadd, 1) := wdX12_treats_44
theorem dX12_treats_45 : decode cX12_treats 45 = .ok (.iaload, 1) := wdX12_treats_45
theorem dX12_treats_46 : decode cX12_treats 46 = .ok (.iconst 1, 1) := wdX12_treats_46
theorem dX12_treats_47 : decode cX12_treats 47 = .ok (.if_icmp .ne 7, 3) := wdX12_treats_47
theorem dX12_treats_54 : decode cX12_treats 54 = .ok (.iconst 0, 1) := wdX12_treats_54
theorem dX12_treats_55 : decode cX12_treats 55 = .ok (.istore 4, 2) := wdX12_treats_55
theorem dX12_treats_57 : decode cX12_treats 57 = .ok (.aload_n 0, 1) := wdX12_treats_57
theorem dX12_treats_58 : decode cX12_treats 58 = .ok (.getfield 17, 3) := wdX12_treats_58
theorem dX12_treats_61 : decode cX12_treats 61 = .ok (.bipush 13, 2) := wdX12_treats_61
theorem dX12_treats_63 : decode cX12_treats 63 = .ok (.iload_n 2, 1) := wdX12_treats_63
theorem dX12_treats_64 : decode cX12_treats 64 = .ok (.iadd, 1) := wdX12_treats_64
theorem dX12_treats_65 : decode cX12_treats 65 = .ok (.iaload, 1) := wdX12_treats_65
theorem dX12_treats_66 : decode cX12_treats 66 = .ok (.ifCond .ne 7, 3) := wdX12_treats_66
theorem dX12_treats_73 : decode cX12_treats 73 = .ok (.iconst 0, 1) := wdX12_treats_73
theorem dX12_treats_74 : decode cX12_treats 74 = .ok (.istore 5, 2) := wdX12_treats_74
theorem dX12_treats_76 : decode cX12_treats 76 = .ok (.aload_n 0, 1) := wdX12_treats_76
theorem dX12_treats_77 : decode cX12_treats 77 = .ok (.getfield 20, 3) := wdX12_treats_77
theorem dX12_treats_80 : decode cX12_treats 80 = .ok (.iload_n 3, 1) := wdX12_treats_80
theorem dX12_treats_81 : decode cX12_treats 81 = .ok (.iaload, 1) := wdX12_treats_81
theorem dX12_treats_82 : decode cX12_treats 82 = .ok (.tableswitch 166 1 6 #[38, 60, 74, 118, 132, 159], 38) := wdX12_treats_82
theorem dX12_treats_120 : decode cX12_treats 120 = .ok (.iload 5, 2) := wdX12_treats_120
theorem dX12_treats_122 : decode cX12_treats 122 = .ok (.ifCond .ne 18, 3) := wdX12_treats_122
theorem dX12_treats_125 : decode cX12_treats 125 = .ok (.aload_n 0, 1) := wdX12_treats_125
theorem dX12_treats_126 : decode cX12_treats 126 = .ok (.iload_n 2, 1) := wdX12_treats_126
theorem dX12_treats_127 : decode cX12_treats 127 = .ok (.iload 4, 2) := wdX12_treats_127
theorem dX12_treats_129 : decode cX12_treats 129 = .ok (.aload_n 0, 1) := wdX12_treats_129
theorem dX12_treats_130 : decode cX12_treats 130 = .ok (.getfield 20, 3) := wdX12_treats_130
theorem dX12_treats_133 : decode cX12_treats 133 = .ok (.iload_n 3, 1) := wdX12_treats_133
theorem dX12_treats_134 : decode cX12_treats 134 = .ok (.iconst 3, 1) := wdX12_treats_134
theorem dX12_treats_135 : decode cX12_treats 135 = .ok (.iadd, 1) := wdX12_treats_135
theorem dX12_treats_136 : decode cX12_treats 136 = .ok (.iaload, 1) := wdX12_treats_136
theorem dX12_treats_137 : decode cX12_treats 137 = .ok (.invokevirtual 119, 3) := wdX12_treats_137
theorem tk_X12_spreads : Cond.code yX12_spreads cX12_spreads 6 none ∈ TB := wtk_X12_spreads
theorem gc_X12_spreads : GoodIn TB (cw yX12_spreads cX12_spreads 6 none) := goodIn_c2 tk_X12_spreads
theorem tb_545 : Cond.methodLink "ToneLinesModel" 119 yX12_spreads ∈ TB := wtb_141
theorem tb_546 : Cond.instanceMethod yX12_spreads ∈ TB := wtb_142
theorem tb_547 : Cond.selects "ToneLinesModel" yX12_spreads yX12_spreads ∈ TB := wtb_143
theorem gv_X12_119 : GoodIn TB (wsV RX12 119 RX12 yX12_spreads (cw yX12_spreads cX12_spreads 6 none)) := goodIn_4 tb_545 tb_546 tb_547 tb_38 gc_X12_spreads
theorem hv_X12_spreads : yX12_spreads.cls = RX12 ∧ yX12_spreads.cls ≠ "java/lang/invoke/MethodHandle" ∧ yX12_spreads.cls ≠ "java/lang/invoke/VarHandle" ∧ (parseMethodDescriptor yX12_spreads.desc).map (fun d => d.parameters.length) = some 3 := whv_X12_spreads
theorem dX12_treats_140 : decode cX12_treats 140 = .ok (.iconst 0, 1) := wdX12_treats_140
theorem dX12_treats_141 : decode cX12_treats 141 = .ok (.ireturn, 1) := wdX12_treats_141
theorem dX12_treats_142 : decode cX12_treats 142 = .ok (.iload 5, 2) := wdX12_treats_142
theorem dX12_treats_144 : decode cX12_treats 144 = .ok (.ifCond .ne 10, 3) := wdX12_treats_144
theorem dX12_treats_147 : decode cX12_treats 147 = .ok (.aload_n 0, 1) := wdX12_treats_147
theorem dX12_treats_148 : decode cX12_treats 148 = .ok (.iload_n 2, 1) := wdX12_treats_148
theorem dX12_treats_149 : decode cX12_treats 149 = .ok (.iload 4, 2) := wdX12_treats_149
theorem dX12_treats_151 : decode cX12_treats 151 = .ok (.invokevirtual 123, 3) := wdX12_treats_151
theorem tk_X12_shifts : Cond.code yX12_shifts cX12_shifts 4 none ∈ TB := wtk_X12_shifts
theorem gc_X12_shifts : GoodIn TB (cw yX12_shifts cX12_shifts 4 none) := goodIn_c2 tk_X12_shifts
theorem tb_548 : Cond.methodLink "ToneLinesModel" 123 yX12_shifts ∈ TB := wtb_144
theorem tb_549 : Cond.instanceMethod yX12_shifts ∈ TB := wtb_145
theorem tb_550 : Cond.selects "ToneLinesModel" yX12_shifts yX12_shifts ∈ TB := wtb_146
theorem gv_X12_123 : GoodIn TB (wsV RX12 123 RX12 yX12_shifts (cw yX12_shifts cX12_shifts 4 none)) := goodIn_4 tb_548 tb_549 tb_550 tb_38 gc_X12_shifts
theorem hv_X12_shifts : yX12_shifts.cls = RX12 ∧ yX12_shifts.cls ≠ "java/lang/invoke/MethodHandle" ∧ yX12_shifts.cls ≠ "java/lang/invoke/VarHandle" ∧ (parseMethodDescriptor yX12_shifts.desc).map (fun d => d.parameters.length) = some 2 := whv_X12_shifts
theorem dX12_treats_154 : decode cX12_treats 154 = .ok (.iconst 0, 1) := wdX12_treats_154
theorem dX12_treats_155 : decode cX12_treats 155 = .ok (.ireturn, 1) := wdX12_treats_155
theorem dX12_treats_156 : decode cX12_treats 156 = .ok (.iload 5, 2) := wdX12_treats_156
theorem dX12_treats_158 : decode cX12_treats 158 = .ok (.ifCond .ne 40, 3) := wdX12_treats_158
theorem dX12_treats_161 : decode cX12_treats 161 = .ok (.aload_n 0, 1) := wdX12_treats_161
theorem dX12_treats_162 : decode cX12_treats 162 = .ok (.iload_n 2, 1) := wdX12_treats_162
theorem dX12_treats_163 : decode cX12_treats 163 = .ok (.iload 4, 2) := wdX12_treats_163
theorem dX12_treats_165 : decode cX12_treats 165 = .ok (.ifCond .eq 18, 3) := wdX12_treats_165
theorem dX12_treats_183 : decode cX12_treats 183 = .ok (.aload_n 0, 1) := wdX12_treats_183
theorem dX12_treats_184 : decode cX12_treats 184 = .ok (.getfield 17, 3) := wdX12_treats_184
theorem dX12_treats_187 : decode cX12_treats 187 = .ok (.bipush 13, 2) := wdX12_treats_187
theorem dX12_treats_189 : decode cX12_treats 189 = .ok (.iload_n 2, 1) := wdX12_treats_189
theorem dX12_treats_190 : decode cX12_treats 190 = .ok (.iadd, 1) := wdX12_treats_190
theorem dX12_treats_191 : decode cX12_treats 191 = .ok (.iaload, 1) := wdX12_treats_191
theorem dX12_treats_192 : decode cX12_treats 192 = .ok (.invokestatic 63, 3) := wdX12_treats_192
theorem dX12_treats_195 : decode cX12_treats 195 = .ok (.invokevirtual 102, 3) := wdX12_treats_195
theorem dX12_treats_198 : decode cX12_treats 198 = .ok (.iconst 0, 1) := wdX12_treats_198
theorem dX12_treats_199 : decode cX12_treats 199 = .ok (.ireturn, 1) := wdX12_treats_199
theorem dX12_treats_200 : decode cX12_treats 200 = .ok (.iload 5, 2) := wdX12_treats_200
theorem dX12_treats_202 : decode cX12_treats 202 = .ok (.ifCond .eq 10, 3) := wdX12_treats_202
theorem dX12_treats_212 : decode cX12_treats 212 = .ok (.iconst 0, 1) := wdX12_treats_212
theorem dX12_treats_213 : decode cX12_treats 213 = .ok (.ireturn, 1) := wdX12_treats_213
theorem dX12_treats_214 : decode cX12_treats 214 = .ok (.iload 5, 2) := wdX12_treats_214
theorem dX12_treats_216 : decode cX12_treats 216 = .ok (.ifCond .ne 5, 3) := wdX12_treats_216
theorem dX12_treats_219 : decode cX12_treats 219 = .ok (.iconst 0, 1) := wdX12_treats_219
theorem dX12_treats_220 : decode cX12_treats 220 = .ok (.ireturn, 1) := wdX12_treats_220
theorem dX12_treats_241 : decode cX12_treats 241 = .ok (.aload_n 0, 1) := wdX12_treats_241
theorem dX12_treats_242 : decode cX12_treats 242 = .ok (.iload_n 2, 1) := wdX12_treats_242
theorem dX12_treats_243 : decode cX12_treats 243 = .ok (.invokevirtual 130, 3) := wdX12_treats_243
theorem tk_X12_fuses : Cond.code yX12_fuses cX12_fuses 3 none ∈ TB := wtk_X12_fuses
theorem gc_X12_fuses : GoodIn TB (cw yX12_fuses cX12_fuses 3 none) := goodIn_c2 tk_X12_fuses
theorem tb_551 : Cond.methodLink "ToneLinesModel" 130 yX12_fuses ∈ TB := wtb_147
theorem tb_552 : Cond.instanceMethod yX12_fuses ∈ TB := wtb_148
theorem tb_553 : Cond.selects "ToneLinesModel" yX12_fuses yX12_fuses ∈ TB := wtb_149
theorem gv_X12_130 : GoodIn TB (wsV RX12 130 RX12 yX12_fuses (cw yX12_fuses cX12_fuses 3 none)) := goodIn_4 tb_551 tb_552 tb_553 tb_38 gc_X12_fuses
theorem hv_X12_fuses : yX12_fuses.cls = RX12 ∧ yX12_fuses.cls ≠ "java/lang/invoke/MethodHandle" ∧ yX12_fuses.cls ≠ "java/lang/invoke/VarHandle" ∧ (parseMethodDescriptor yX12_fuses.desc).map (fun d => d.parameters.length) = some 1 := whv_X12_fuses
theorem dX12_treats_246 : decode cX12_treats 246 = .ok (.iconst 0, 1) := wdX12_treats_246
theorem dX12_treats_247 : decode cX12_treats 247 = .ok (.ireturn, 1) := wdX12_treats_247
theorem dX12_treats_248 : decode cX12_treats 248 = .ok (.aload_n 0, 1) := wdX12_treats_248
theorem dX12_treats_249 : decode cX12_treats 249 = .ok (.iload_n 2, 1) := wdX12_treats_249
theorem dX12_treats_250 : decode cX12_treats 250 = .ok (.aload_n 0, 1) := wdX12_treats_250
theorem dX12_treats_251 : decode cX12_treats 251 = .ok (.getfield 20, 3) := wdX12_treats_251
theorem dX12_treats_254 : decode cX12_treats 254 = .ok (.iload_n 3, 1) := wdX12_treats_254
theorem dX12_treats_255 : decode cX12_treats 255 = .ok (.iconst 3, 1) := wdX12_treats_255
theorem dX12_treats_256 : decode cX12_treats 256 = .ok (.iadd, 1) := wdX12_treats_256
theorem dX12_treats_257 : decode cX12_treats 257 = .ok (.iaload, 1) := wdX12_treats_257
theorem dX12_treats_258 : decode cX12_treats 258 = .ok (.invokevirtual 134, 3) := wdX12_treats_258
theorem tk_X12_turns : Cond.code yX12_turns cX12_turns 3 none ∈ TB := wtk_X12_turns
theorem gc_X12_turns : GoodIn TB (cw yX12_turns cX12_turns 3 none) := goodIn_c2 tk_X12_turns
theorem tb_554 : Cond.methodLink "ToneLinesModel" 134 yX12_turns ∈ TB := wtb_150
theorem tb_555 : Cond.instanceMethod yX12_turns ∈ TB := wtb_151
theorem tb_556 : Cond.selects "ToneLinesModel" yX12_turns yX12_turns ∈ TB := wtb_152
theorem gv_X12_134 : GoodIn TB (wsV RX12 134 RX12 yX12_turns (cw yX12_turns cX12_turns 3 none)) := goodIn_4 tb_554 tb_555 tb_556 tb_38 gc_X12_turns
theorem hv_X12_turns : yX12_turns.cls = RX12 ∧ yX12_turns.cls ≠ "java/lang/invoke/MethodHandle" ∧ yX12_turns.cls ≠ "java/lang/invoke/VarHandle" ∧ (parseMethodDescriptor yX12_turns.desc).map (fun d => d.parameters.length) = some 2 := whv_X12_turns
theorem dX12_treats_261 : decode cX12_treats 261 = .ok (.iconst 0, 1) := wdX12_treats_261
theorem dX12_treats_262 : decode cX12_treats 262 = .ok (.ireturn, 1) := wdX12_treats_262
theorem dX12_treats_69 : decode cX12_treats 69 = .ok (.iconst 1, 1) := wdX12_treats_69
theorem dX12_treats_70 : decode cX12_treats 70 = .ok (.goto 4, 3) := wdX12_treats_70
theorem dX12_treats_205 : decode cX12_treats 205 = .ok (.aload_n 0, 1) := wdX12_treats_205
theorem dX12_treats_206 : decode cX12_treats 206 = .ok (.iload_n 2, 1) := wdX12_treats_206
theorem dX12_treats_207 : decode cX12_treats 207 = .ok (.iload 4, 2) := wdX12_treats_207
theorem dX12_treats_209 : decode cX12_treats 209 = .ok (.invokevirtual 127, 3) := wdX12_treats_209
theorem tk_X12_docks : Cond.code yX12_docks cX12_docks 5 none ∈ TB := wtk_X12_docks
theorem gc_X12_docks : GoodIn TB (cw yX12_docks cX12_docks 5 none) := goodIn_c2 tk_X12_docks
theorem tb_557 : Cond.methodLink "ToneLinesModel" 127 yX12_docks ∈ TB := wtb_153
theorem tb_558 : Cond.instanceMethod yX12_docks ∈ TB := wtb_154
theorem tb_559 : Cond.selects "ToneLinesModel" yX12_docks yX12_docks ∈ TB := wtb_155
theorem gv_X12_127 : GoodIn TB (wsV RX12 127 RX12 yX12_docks (cw yX12_docks cX12_docks 5 none)) := goodIn_4 tb_557 tb_558 tb_559 tb_38 gc_X12_docks
theorem hv_X12_docks : yX12_docks.cls = RX12 ∧ yX12_docks.cls ≠ "java/lang/invoke/MethodHandle" ∧ yX12_docks.cls ≠ "java/lang/invoke/VarHandle" ∧ (parseMethodDescriptor yX12_docks.desc).map (fun d => d.parameters.length) = some 2 := whv_X12_docks
theorem dX12_treats_221 : decode cX12_treats 221 = .ok (.aload_n 0, 1) := wdX12_treats_221
theorem dX12_treats_222 : decode cX12_treats 222 = .ok (.getfield 17, 3) := wdX12_treats_222
theorem dX12_treats_225 : decode cX12_treats 225 = .ok (.iload_n 2, 1) := wdX12_treats_225
theorem dX12_treats_226 : decode cX12_treats 226 = .ok (.invokestatic 108, 3) := wdX12_treats_226
theorem dX12_treats_229 : decode cX12_treats 229 = .ok (.aload_n 0, 1) := wdX12_treats_229
theorem dX12_treats_230 : decode cX12_treats 230 = .ok (.dup, 1) := wdX12_treats_230
theorem dX12_treats_231 : decode cX12_treats 231 = .ok (.getfield 66, 3) := wdX12_treats_231
theorem dX12_treats_234 : decode cX12_treats 234 = .ok (.iconst 1, 1) := wdX12_treats_234
theorem dX12_treats_235 : decode cX12_treats 235 = .ok (.iadd, 1) := wdX12_treats_235
theorem dX12_treats_236 : decode cX12_treats 236 = .ok (.putfield 66, 3) := wdX12_treats_236
theorem dX12_treats_239 : decode cX12_treats 239 = .ok (.iconst 1, 1) := wdX12_treats_239
theorem dX12_treats_240 : decode cX12_treats 240 = .ok (.ireturn, 1) := wdX12_treats_240
theorem dX12_treats_50 : decode cX12_treats 50 = .ok (.iconst 1, 1) := wdX12_treats_50
theorem dX12_treats_51 : decode cX12_treats 51 = .ok (.goto 4, 3) := wdX12_treats_51
theorem dX12_treats_168 : decode cX12_treats 168 = .ok (.aload_n 0, 1) := wdX12_treats_168
theorem dX12_treats_169 : decode cX12_treats 169 = .ok (.getfield 17, 3) := wdX12_treats_169
theorem dX12_treats_172 : decode cX12_treats 172 = .ok (.bipush 13, 2) := wdX12_treats_172
theorem dX12_treats_174 : decode cX12_treats 174 = .ok (.iload_n 2, 1) := wdX12_treats_174
theorem dX12_treats_175 : decode cX12_treats 175 = .ok (.iadd, 1) := wdX12_treats_175
theorem dX12_treats_176 : decode cX12_treats 176 = .ok (.iaload, 1) := wdX12_treats_176
theorem dX12_treats_177 : decode cX12_treats 177 = .ok (.invokestatic 59, 3) := wdX12_treats_177
theorem dX12_treats_180 : decode cX12_treats 180 = .ok (.goto 15, 3) := wdX12_treats_180
set_option maxHeartbeats 4000000 in
set_option maxRecDepth 4000 in
theorem q_X12_treats {l : Launch} {D : va_G} {B : Nat} {cy : Nat → ClassId} {M : Mem} {x : Int} (hx : 0 ≤ x ∧ x ≤ 7) {t : Int} (ht : 0 ≤ t ∧ t ≤ 11) {nn : Int} (hgnn : M.1 148 0 = zI nn) (hnn : 0 ≤ nn ∧ nn ≤ 12) (hpre0 : t < nn) (hI : IvR M) : Ci l D B cy yX12_treats cX12_treats 6 (some .boolean) 5 115 [.ref (B + 146), .int (zI x), .int (zI t)] M (fun r M1 => ∃ z : Int, r = zI z ∧ (0 ≤ z ∧ z ≤ 1) ∧ (∃ n2 : Int, M1.1 148 0 = zI n2 ∧ ((0 ≤ n2 ∧ n2 ≤ 12) ∧ n2 ≤ nn ∧ (z = 0 ∨ n2 < nn))) ∧ IvR M1 ∧ Fr (fun b9 k9 => (b9 = 146 ∧ k9 = 3) ∨ b9 = 148) M1 M) := by
  refine s_anyQ (by decide) (Nat.le_of_ble_eq_true rfl) ?_
  intro p e s m args below meth c ls Q F hr hlocks hQ w hl
  have F : CallFix p m c cX12_treats 6 s args TB RX12 := F
  have hx := F.1
  have hb := F.2.1
  have hl : lv_has ls 6 [(0, .ref (B + 146)), (1, .int (zI x)), (2, .int (zI t))] := hl
  have hF : Fr (fun b9 k9 => (b9 = 146 ∧ k9 = 3) ∨ b9 = 148) M M := Fr.rf
  refine lv_bipush (v := zI 8) hx hb dX12_treats_0 (by decide) ?_
  refine lv_iload_n hx hb dX12_treats_2 rfl (lv_at hl 1 rfl) ?_
  refine z_imul (z := (8 * x)) hx hb dX12_treats_3 (by omega) ?_
  refine lv_istore_n (lv' := [(3, .int (zI (8 * x))), (0, .ref (B + 146)), (1, .int (zI x)), (2, .int (zI t))]) hx hb dX12_treats_4 rfl hl (by decide) rfl (fun ls hl => ?_)
  refine lv_aload_n hx hb dX12_treats_5 rfl (lv_at hl 1 rfl) ?_
  refine f_12_2 F w (a := 146) rfl tb_45 dX12_treats_6 ?_
  refine lv_iconst (v := zI 1) hx hb dX12_treats_9 rfl ?_
  refine lv_iload_n hx hb dX12_treats_10 rfl (lv_at hl 3 rfl) ?_
  refine z_iadd (z := (t + 1)) hx hb dX12_treats_11 (by omega) ?_
  refine g_iald F w (a := 148) rfl (j := (Int.toNat (t + 1))) (ix_z (by omega) (by omega)) (by omega) dX12_treats_12 ?_
  obtain ⟨z1, bz1, ez1⟩ := IvR.ld (k := (Int.toNat (t + 1))) hI (wiv_k (a := 148) (k := (Int.toNat (t + 1))) (by omega) (by omega)) (show 146 ≤ 148 ∧ 148 < 159 by decide)
  refine r_val ez1 ?_
  refine lv_aload_n hx hb dX12_treats_13 rfl (lv_at hl 1 rfl) ?_
  refine f_12_4 F w (a := 146) rfl tb_532 dX12_treats_14 ?_
  refine lv_iload_n hx hb dX12_treats_17 rfl (lv_at hl 0 rfl) ?_
  refine lv_iconst (v := zI 2) hx hb dX12_treats_18 rfl ?_
  refine z_iadd (z := ((8 * x) + 2)) hx hb dX12_treats_19 (by omega) ?_
  refine g_iald F w (a := 149) rfl (j := (Int.toNat ((8 * x) + 2))) (ix_z (by omega) (by omega)) (by omega) dX12_treats_20 ?_
  obtain ⟨z2, bz2, ez2⟩ := IvR.ld (k := (Int.toNat ((8 * x) + 2))) hI (show ivr 149 (Int.toNat ((8 * x) + 2)) = ((-99), 300) from rfl) (show 146 ≤ 149 ∧ 149 < 159 by decide)
  refine r_val ez2 ?_
  refine k_Si F w (As := [.int (zI z1), .int (zI z2)]) (rest := []) (q_X12_fits (x := z1) ⟨by omega, by omega⟩ (x1 := z2) ⟨by omega, by omega⟩  hI) gs_X12_79 hs_X12_fits ⟨(Nat.le_of_ble_eq_true rfl), (Nat.le_of_ble_eq_true rfl)⟩ hl.1 rfl (Nat.le_of_ble_eq_true rfl) ⟨Nat.zero_le _, Nat.zero_le _⟩ dX12_treats_21 (fun r3 N4 H locs hp w => ?_)
  obtain ⟨z5, rfl, bz5, hMN4⟩ := hp
  rw [hMN4] at w
  refine z_if_eq (tgt := 36) hx hb (by omega) dX12_treats_24 (by decide) (fun c6 => ?_) (fun c6 => ?_)
  · refine lv_iconst (v := zI 0) hx hb dX12_treats_36 rfl ?_
    rw [hQ]
    exact e_z F w hr hlocks (nar_z (by omega)) ⟨_, rfl, ⟨by omega, by omega⟩, ⟨nn, (hgnn), ⟨by omega, by omega⟩, (by omega)⟩, hI, hF⟩ dX12_treats_37
  · refine lv_aload_n hx hb dX12_treats_27 rfl (lv_at hl 1 rfl) ?_
    refine lv_iload_n hx hb dX12_treats_28 rfl (lv_at hl 2 rfl) ?_
    refine lv_iload_n hx hb dX12_treats_29 rfl (lv_at hl 3 rfl) ?_
    refine k_Vi F w (As := [.int (zI x), .int (zI t)]) (rest := []) (a := 146) (kd_lt (a := 146) (show kd 146 = (12, 0, 0) from rfl) (by decide)) (sh_12 rfl _ _) rfl (q_X12_passes (x := x) ⟨by omega, by omega⟩ (t := t) ⟨by omega, by omega⟩  hI) gv_X12_116 hv_X12_passes ⟨(Nat.le_of_ble_eq_true rfl), (Nat.le_of_ble_eq_true rfl)⟩ hl.1 rfl (Nat.le_of_ble_eq_true rfl) ⟨Nat.zero_le _, Nat.zero_le _⟩ dX12_treats_30 (fun r7 N8 H locs hp w => ?_)
    obtain ⟨z9, rfl, bz9, hMN8⟩ := hp
    rw [hMN8] at w
    refine z_if_ne (tgt := 38) hx hb (by omega) dX12_treats_33 (by decide) (fun c10 => ?_) (fun c10 => ?_)
    · refine lv_aload_n hx hb dX12_treats_38 rfl (lv_at hl 1 rfl) ?_
      refine f_12_4 F w (a := 146) rfl tb_532 dX12_treats_39 ?_
      refine lv_iload_n hx hb dX12_treats_42 rfl (lv_at hl 0 rfl) ?_
      refine lv_iconst (v := zI 4) hx hb dX12_treats_43 rfl ?_
      refine z_iadd (z := ((8 * x) + 4)) hx hb dX12_treats_44 (by omega) ?_
      refine g_iald F w (a := 149) rfl (j := (Int.toNat ((8 * x) + 4))) (ix_z (by omega) (by omega)) (by omega) dX12_treats_45 ?_
      obtain ⟨z11, bz11, ez11⟩ := IvR.ld (k := (Int.toNat ((8 * x) + 4))) hI (show ivr 149 (Int.toNat ((8 * x) + 4)) = ((-99), 300) from rfl) (show 146 ≤ 149 ∧ 149 < 159 by decide)
      refine r_val ez11 ?_
      refine lv_iconst (v := zI 1) hx hb dX12_treats_46 rfl ?_
      refine z_icmp_ne (tgt := 54) hx hb (by omega) (by omega) dX12_treats_47 (by decide) (fun c12 => ?_) (fun c12 => ?_)
      · refine lv_iconst (v := zI 0) hx hb dX12_treats_54 rfl ?_
        refine lv_istore (lv' := [(4, .int (zI 0)), (3, .int (zI (8 * x))), (0, .ref (B + 146)), (1, .int (zI x)), (2, .int (zI t))]) hx hb dX12_treats_55 hl (by decide) rfl (fun ls hl => ?_)
        refine lv_aload_n hx hb dX12_treats_57 rfl (lv_at hl 2 rfl) ?_
        refine f_12_2 F w (a := 146) rfl tb_45 dX12_treats_58 ?_
        refine lv_bipush (v := zI 13) hx hb dX12_treats_61 (by decide) ?_
        refine lv_iload_n hx hb dX12_treats_63 rfl (lv_at hl 4 rfl) ?_
        refine z_iadd (z := (t + 13)) hx hb dX12_treats_64 (by omega) ?_
        refine g_iald F w (a := 148) rfl (j := (13 + Int.toNat t)) (ix_l (t := t) (by omega) (by omega)) (by omega) dX12_treats_65 ?_
        obtain ⟨z13, bz13, ez13⟩ := IvR.ld (k := (13 + Int.toNat t)) hI (wiv_l (a := 148) (k := (13 + Int.toNat t)) (by omega) (by omega)) (show 146 ≤ 148 ∧ 148 < 159 by decide)
        refine r_val ez13 ?_
        refine z_if_ne (tgt := 73) hx hb (by omega) dX12_treats_66 (by decide) (fun c14 => ?_) (fun c14 => ?_)
        · refine lv_iconst (v := zI 0) hx hb dX12_treats_73 rfl ?_
          refine lv_istore (lv' := [(5, .int (zI 0)), (4, .int (zI 0)), (3, .int (zI (8 * x))), (0, .ref (B + 146)), (1, .int (zI x)), (2, .int (zI t))]) hx hb dX12_treats_74 hl (by decide) rfl (fun ls hl => ?_)
          refine lv_aload_n hx hb dX12_treats_76 rfl (lv_at hl 3 rfl) ?_
          refine f_12_4 F w (a := 146) rfl tb_532 dX12_treats_77 ?_
          refine lv_iload_n hx hb dX12_treats_80 rfl (lv_at hl 2 rfl) ?_
          refine g_iald F w (a := 149) rfl (j := (Int.toNat (8 * x))) (ix_z (by omega) (by omega)) (by omega) dX12_treats_81 ?_
          obtain ⟨z15, bz15, ez15⟩ := IvR.ld (k := (Int.toNat (8 * x))) hI (show ivr 149 (Int.toNat (8 * x)) = ((-99), 300) from rfl) (show 146 ≤ 149 ∧ 149 < 159 by decide)
          refine r_val ez15 ?_
          rcases (show z15 = 1 ∨ z15 = 2 ∨ z15 = 3 ∨ z15 = 4 ∨ z15 = 5 ∨ z15 = 6 ∨ (z15 ≠ 1 ∧ z15 ≠ 2 ∧ z15 ≠ 3 ∧ z15 ≠ 4 ∧ z15 ≠ 5 ∧ z15 ≠ 6) by omega) with c16 | c16 | c16 | c16 | c16 | c16 | c16
          · refine r_val (v := zI 1) (congrArg zI c16) ?_
            refine lv_tableIn (tgt := 120) hx hb dX12_treats_82 (by decide) (by decide) (off := 38) rfl (by decide) ?_
            refine lv_iload hx hb dX12_treats_120 (lv_at hl 0 rfl) ?_
            refine z_if_ne (tgt := 140) hx hb (by omega) dX12_treats_122 (by decide) (fun c17 => False.elim (by omega)) (fun c17 => ?_)
            refine lv_aload_n hx hb dX12_treats_125 rfl (lv_at hl 3 rfl) ?_
            refine lv_iload_n hx hb dX12_treats_126 rfl (lv_at hl 5 rfl) ?_
            refine lv_iload hx hb dX12_treats_127 (lv_at hl 1 rfl) ?_
            refine lv_aload_n hx hb dX12_treats_129 rfl (lv_at hl 3 rfl) ?_
            refine f_12_4 F w (a := 146) rfl tb_532 dX12_treats_130 ?_
            refine lv_iload_n hx hb dX12_treats_133 rfl (lv_at hl 2 rfl) ?_
            refine lv_iconst (v := zI 3) hx hb dX12_treats_134 rfl ?_
            refine z_iadd (z := ((8 * x) + 3)) hx hb dX12_treats_135 (by omega) ?_
            refine g_iald F w (a := 149) rfl (j := (Int.toNat ((8 * x) + 3))) (ix_z (by omega) (by omega)) (by omega) dX12_treats_136 ?_
            obtain ⟨z18, bz18, ez18⟩ := IvR.ld (k := (Int.toNat ((8 * x) + 3))) hI (show ivr 149 (Int.toNat ((8 * x) + 3)) = ((-99), 300) from rfl) (show 146 ≤ 149 ∧ 149 < 159 by decide)
            refine r_val ez18 ?_
            refine k_Vv F w (As := [.int (zI t), .int (zI 0), .int (zI z18)]) (rest := []) (a := 146) (kd_lt (a := 146) (show kd 146 = (12, 0, 0) from rfl) (by decide)) (sh_12 rfl _ _) rfl (q_X12_spreads (t := t) ⟨by omega, by omega⟩ (x := 0) ⟨by omega, by omega⟩ (x1 := z18) ⟨by omega, by omega⟩ (nn := nn) (hgnn) ⟨by omega, by omega⟩ (by omega) hI) gv_X12_119 hv_X12_spreads ⟨(Nat.le_of_ble_eq_true rfl), (Nat.le_of_ble_eq_true rfl)⟩ hl.1 rfl (Nat.le_of_ble_eq_true rfl) ⟨Nat.zero_le _, Nat.zero_le _⟩ dX12_treats_137 (fun N20 H locs hp w => ?_)
            obtain ⟨hIN20, hFN20⟩ := hp
            have hGN20 := Fr.tr hF hFN20 (S := (fun b9 k9 => (b9 = 146 ∧ k9 = 3) ∨ b9 = 148)) (fun b k h => by (try dsimp only at h ⊢); rcases h with ⟨rfl, rfl⟩ | ⟨rfl, q1, q2⟩ <;> first | decide | omega)
            have kn22 : N20.1 148 0 = zI nn := (hFN20 148 0 (by first | decide | (dsimp only; first | done | decide | omega) | omega)).trans (hgnn)
            refine lv_iconst (v := zI 0) hx hb dX12_treats_140 rfl ?_
            rw [hQ]
            exact e_z F w hr hlocks (nar_z (by omega)) ⟨_, rfl, ⟨by omega, by omega⟩, ⟨nn, (kn22), ⟨by omega, by omega⟩, (by omega)⟩, hIN20, hGN20⟩ dX12_treats_141
          · refine r_val (v := zI 2) (congrArg zI c16) ?_
            refine lv_tableIn (tgt := 142) hx hb dX12_treats_82 (by decide) (by decide) (off := 60) rfl (by decide) ?_
            refine lv_iload hx hb dX12_treats_142 (lv_at hl 0 rfl) ?_
            refine z_if_ne (tgt := 154) hx hb (by omega) dX12_treats_144 (by decide) (fun c23 => False.elim (by omega)) (fun c23 => ?_)
            refine lv_aload_n hx hb dX12_treats_147 rfl (lv_at hl 3 rfl) ?_
            refine lv_iload_n hx hb dX12_treats_148 rfl (lv_at hl 5 rfl) ?_
            refine lv_iload hx hb dX12_treats_149 (lv_at hl 1 rfl) ?_
            refine k_Vv F w (As := [.int (zI t), .int (zI 0)]) (rest := []) (a := 146) (kd_lt (a := 146) (show kd 146 = (12, 0, 0) from rfl) (by decide)) (sh_12 rfl _ _) rfl (q_X12_shifts (t := t) ⟨by omega, by omega⟩ (x := 0) ⟨by omega, by omega⟩ (nn := nn) (hgnn) ⟨by omega, by omega⟩ (ll := z13) (ez13) ⟨by omega, by omega⟩ (by omega) (by omega) hI) gv_X12_123 hv_X12_shifts ⟨(Nat.le_of_ble_eq_true rfl), (Nat.le_of_ble_eq_true rfl)⟩ hl.1 rfl (Nat.le_of_ble_eq_true rfl) ⟨Nat.zero_le _, Nat.zero_le _⟩ dX12_treats_151 (fun N25 H locs hp w => ?_)
            obtain ⟨hIN25, hFN25⟩ := hp
            have hGN25 := Fr.tr hF hFN25 (S := (fun b9 k9 => (b9 = 146 ∧ k9 = 3) ∨ b9 = 148)) (fun b k h => by (try dsimp only at h ⊢); rcases h with ⟨rfl, rfl⟩ | ⟨rfl, q1, q2⟩ <;> first | decide | omega)
            have kn27 : N25.1 148 0 = zI nn := (hFN25 148 0 (by first | decide | (dsimp only; first | done | decide | omega) | omega)).trans (hgnn)
            refine lv_iconst (v := zI 0) hx hb dX12_treats_154 rfl ?_
            rw [hQ]
            exact e_z F w hr hlocks (nar_z (by omega)) ⟨_, rfl, ⟨by omega, by omega⟩, ⟨nn, (kn27), ⟨by omega, by omega⟩, (by omega)⟩, hIN25, hGN25⟩ dX12_treats_155
          · refine r_val (v := zI 3) (congrArg zI c16) ?_
            refine lv_tableIn (tgt := 156) hx hb dX12_treats_82 (by decide) (by decide) (off := 74) rfl (by decide) ?_
            refine lv_iload hx hb dX12_treats_156 (lv_at hl 0 rfl) ?_
            refine z_if_ne (tgt := 198) hx hb (by omega) dX12_treats_158 (by decide) (fun c28 => False.elim (by omega)) (fun c28 => ?_)
            refine lv_aload_n hx hb dX12_treats_161 rfl (lv_at hl 3 rfl) ?_
            refine lv_iload_n hx hb dX12_treats_162 rfl (lv_at hl 5 rfl) ?_
            refine lv_iload hx hb dX12_treats_163 (lv_at hl 1 rfl) ?_
            refine z_if_eq (tgt := 183) hx hb (by omega) dX12_treats_165 (by decide) (fun c29 => ?_) (fun c29 => False.elim (by omega))
            refine lv_aload_n hx hb dX12_treats_183 rfl (lv_at hl 3 rfl) ?_
            refine f_12_2 F w (a := 146) rfl tb_45 dX12_treats_184 ?_
            refine lv_bipush (v := zI 13) hx hb dX12_treats_187 (by decide) ?_
            refine lv_iload_n hx hb dX12_treats_189 rfl (lv_at hl 5 rfl) ?_
            refine z_iadd (z := (t + 13)) hx hb dX12_treats_190 (by omega) ?_
            refine g_iald F w (a := 148) rfl (j := (13 + Int.toNat t)) (ix_l (t := t) (by omega) (by omega)) (by omega) dX12_treats_191 ?_
            refine r_val (v := zI z13) (ez13) ?_
            refine k_Si F w (As := [.int (zI z13)]) (rest := [.int (zI t), .ref (B + 146)]) (q_firstOf (x := z13) ⟨by omega, by omega⟩ ) gs_X12_63 hs_X12_firstOf ⟨(Nat.le_of_ble_eq_true rfl), (Nat.le_of_ble_eq_true rfl)⟩ hl.1 rfl (Nat.le_of_ble_eq_true rfl) ⟨Nat.zero_le _, Nat.zero_le _⟩ dX12_treats_192 (fun r30 N31 H locs hp w => ?_)
            obtain ⟨hrz32, hMz32⟩ := hp
            rw [hMz32] at w
            obtain ⟨z32, bz32, xz32, xcz32, ez32⟩ := low2_ex z13 (by omega)
            refine r_val (hrz32.trans ez32) ?_
            refine k_Vv F w (As := [.int (zI t), .int (zI z32)]) (rest := []) (a := 146) (kd_lt (a := 146) (show kd 146 = (12, 0, 0) from rfl) (by decide)) (sh_12 rfl _ _) rfl (q_X12_goes (t := t) ⟨by omega, by omega⟩ (y := z32) ⟨by omega, by omega⟩  hI) gv_X12_102 hv_X12_goes ⟨(Nat.le_of_ble_eq_true rfl), (Nat.le_of_ble_eq_true rfl)⟩ hl.1 rfl (Nat.le_of_ble_eq_true rfl) ⟨Nat.zero_le _, Nat.zero_le _⟩ dX12_treats_195 (fun N34 H locs hp w => ?_)
            obtain ⟨hIN34, hFN34⟩ := hp
            have hGN34 := Fr.tr hF hFN34 (S := (fun b9 k9 => (b9 = 146 ∧ k9 = 3) ∨ b9 = 148)) (fun b k h => by (try dsimp only at h ⊢); rcases h with ⟨rfl, rfl⟩ | ⟨rfl, q1, q2⟩ <;> first | decide | omega)
            have kn36 : N34.1 148 0 = zI nn := (hFN34 148 0 (by first | decide | (dsimp only; first | done | decide | omega) | omega)).trans (hgnn)
            refine lv_iconst (v := zI 0) hx hb dX12_treats_198 rfl ?_
            rw [hQ]
            exact e_z F w hr hlocks (nar_z (by omega)) ⟨_, rfl, ⟨by omega, by omega⟩, ⟨nn, (kn36), ⟨by omega, by omega⟩, (by omega)⟩, hIN34, hGN34⟩ dX12_treats_199
          · refine r_val (v := zI 4) (congrArg zI c16) ?_
            refine lv_tableIn (tgt := 200) hx hb dX12_treats_82 (by decide) (by decide) (off := 118) rfl (by decide) ?_
            refine lv_iload hx hb dX12_treats_200 (lv_at hl 0 rfl) ?_
            refine z_if_eq (tgt := 212) hx hb (by omega) dX12_treats_202 (by decide) (fun c37 => ?_) (fun c37 => False.elim (by omega))
            refine lv_iconst (v := zI 0) hx hb dX12_treats_212 rfl ?_
            rw [hQ]
            exact e_z F w hr hlocks (nar_z (by omega)) ⟨_, rfl, ⟨by omega, by omega⟩, ⟨nn, (hgnn), ⟨by omega, by omega⟩, (by omega)⟩, hI, hF⟩ dX12_treats_213
          · refine r_val (v := zI 5) (congrArg zI c16) ?_
            refine lv_tableIn (tgt := 214) hx hb dX12_treats_82 (by decide) (by decide) (off := 132) rfl (by decide) ?_
            refine lv_iload hx hb dX12_treats_214 (lv_at hl 0 rfl) ?_
            refine z_if_ne (tgt := 221) hx hb (by omega) dX12_treats_216 (by decide) (fun c38 => False.elim (by omega)) (fun c38 => ?_)
            refine lv_iconst (v := zI 0) hx hb dX12_treats_219 rfl ?_
            rw [hQ]
            exact e_z F w hr hlocks (nar_z (by omega)) ⟨_, rfl, ⟨by omega, by omega⟩, ⟨nn, (hgnn), ⟨by omega, by omega⟩, (by omega)⟩, hI, hF⟩ dX12_treats_220
          · refine r_val (v := zI 6) (congrArg zI c16) ?_
            refine lv_tableIn (tgt := 241) hx hb dX12_treats_82 (by decide) (by decide) (off := 159) rfl (by decide) ?_
            refine lv_aload_n hx hb dX12_treats_241 rfl (lv_at hl 3 rfl) ?_
            refine lv_iload_n hx hb dX12_treats_242 rfl (lv_at hl 5 rfl) ?_
            refine k_Vv F w (As := [.int (zI t)]) (rest := []) (a := 146) (kd_lt (a := 146) (show kd 146 = (12, 0, 0) from rfl) (by decide)) (sh_12 rfl _ _) rfl (q_X12_fuses (t := t) ⟨by omega, by omega⟩ (nn := nn) (hgnn) ⟨by omega, by omega⟩ (by omega) hI) gv_X12_130 hv_X12_fuses ⟨(Nat.le_of_ble_eq_true rfl), (Nat.le_of_ble_eq_true rfl)⟩ hl.1 rfl (Nat.le_of_ble_eq_true rfl) ⟨Nat.zero_le _, Nat.zero_le _⟩ dX12_treats_243 (fun N40 H locs hp w => ?_)
            obtain ⟨⟨nz410, enz410, xz41⟩, hIN40, hFN40⟩ := hp
            have hGN40 := Fr.tr hF hFN40 (S := (fun b9 k9 => (b9 = 146 ∧ k9 = 3) ∨ b9 = 148)) (fun b k h => by (try dsimp only at h ⊢); rcases h with ⟨rfl, rfl⟩ | rfl <;> first | decide | omega)
            refine lv_iconst (v := zI 0) hx hb dX12_treats_246 rfl ?_
            rw [hQ]
            exact e_z F w hr hlocks (nar_z (by omega)) ⟨_, rfl, ⟨by omega, by omega⟩, ⟨nz410, (enz410), ⟨by omega, by omega⟩, (by omega)⟩, hIN40, hGN40⟩ dX12_treats_247
          · refine lv_tableOut (tgt := 248) hx hb dX12_treats_82 (by rw [zI_toInt (by omega)]; omega) (by decide) ?_
            refine lv_aload_n hx hb dX12_treats_248 rfl (lv_at hl 3 rfl) ?_
            refine lv_iload_n hx hb dX12_treats_249 rfl (lv_at hl 5 rfl) ?_
            refine lv_aload_n hx hb dX12_treats_250 rfl (lv_at hl 3 rfl) ?_
            refine f_12_4 F w (a := 146) rfl tb_532 dX12_treats_251 ?_
            refine lv_iload_n hx hb dX12_treats_254 rfl (lv_at hl 2 rfl) ?_
            refine lv_iconst (v := zI 3) hx hb dX12_treats_255 rfl ?_
            refine z_iadd (z := ((8 * x) + 3)) hx hb dX12_treats_256 (by omega) ?_
            refine g_iald F w (a := 149) rfl (j := (Int.toNat ((8 * x) + 3))) (ix_z (by omega) (by omega)) (by omega) dX12_treats_257 ?_
            obtain ⟨z42, bz42, ez42⟩ := IvR.ld (k := (Int.toNat ((8 * x) + 3))) hI (show ivr 149 (Int.toNat ((8 * x) + 3)) = ((-99), 300) from rfl) (show 146 ≤ 149 ∧ 149 < 159 by decide)
            refine r_val ez42 ?_
            refine k_Vv F w (As := [.int (zI t), .int (zI z42)]) (rest := []) (a := 146) (kd_lt (a := 146) (show kd 146 = (12, 0, 0) from rfl) (by decide)) (sh_12 rfl _ _) rfl (q_X12_turns (t := t) ⟨by omega, by omega⟩ (x := z42) ⟨by omega, by omega⟩  hI) gv_X12_134 hv_X12_turns ⟨(Nat.le_of_ble_eq_true rfl), (Nat.le_of_ble_eq_true rfl)⟩ hl.1 rfl (Nat.le_of_ble_eq_true rfl) ⟨Nat.zero_le _, Nat.zero_le _⟩ dX12_treats_258 (fun N44 H locs hp w => ?_)
            obtain ⟨hIN44, hFN44⟩ := hp
            have hGN44 := Fr.tr hF hFN44 (S := (fun b9 k9 => (b9 = 146 ∧ k9 = 3) ∨ b9 = 148)) (fun b k h => by (try dsimp only at h ⊢); rcases h with ⟨rfl, rfl⟩ | ⟨rfl, q1, q2⟩ <;> first | decide | omega)
            have kn46 : N44.1 148 0 = zI nn := (hFN44 148 0 (by first | decide | (dsimp only; first | done | decide | omega) | omega)).trans (hgnn)
            refine lv_iconst (v := zI 0) hx hb dX12_treats_261 rfl ?_
            rw [hQ]
            exact e_z F w hr hlocks (nar_z (by omega)) ⟨_, rfl, ⟨by omega, by omega⟩, ⟨nn, (kn46), ⟨by omega, by omega⟩, (by omega)⟩, hIN44, hGN44⟩ dX12_treats_262
        · refine lv_iconst (v := zI 1) hx hb dX12_treats_69 rfl ?_
          refine lv_goto (tgt := 74) hx hb dX12_treats_70 (by decide) ?_
          refine lv_istore (lv' := [(5, .int (zI 1)), (4, .int (zI 0)), (3, .int (zI (8 * x))), (0, .ref (B + 146)), (1, .int (zI x)), (2, .int (zI t))]) hx hb dX12_treats_74 hl (by decide) rfl (fun ls hl => ?_)
          refine lv_aload_n hx hb dX12_treats_76 rfl (lv_at hl 3 rfl) ?_
          refine f_12_4 F w (a := 146) rfl tb_532 dX12_treats_77 ?_
          refine lv_iload_n hx hb dX12_treats_80 rfl (lv_at hl 2 rfl) ?_
          refine g_iald F w (a := 149) rfl (j := (Int.toNat (8 * x))) (ix_z (by omega) (by omega)) (by omega) dX12_treats_81 ?_
          obtain ⟨z47, bz47, ez47⟩ := IvR.ld (k := (Int.toNat (8 * x))) hI (show ivr 149 (Int.toNat (8 * x)) = ((-99), 300) from rfl) (show 146 ≤ 149 ∧ 149 < 159 by decide)
          refine r_val ez47 ?_
          rcases (show z47 = 1 ∨ z47 = 2 ∨ z47 = 3 ∨ z47 = 4 ∨ z47 = 5 ∨ z47 = 6 ∨ (z47 ≠ 1 ∧ z47 ≠ 2 ∧ z47 ≠ 3 ∧ z47 ≠ 4 ∧ z47 ≠ 5 ∧ z47 ≠ 6) by omega) with c48 | c48 | c48 | c48 | c48 | c48 | c48
          · refine r_val (v := zI 1) (congrArg zI c48) ?_
            refine lv_tableIn (tgt := 120) hx hb dX12_treats_82 (by decide) (by decide) (off := 38) rfl (by decide) ?_
            refine lv_iload hx hb dX12_treats_120 (lv_at hl 0 rfl) ?_
            refine z_if_ne (tgt := 140) hx hb (by omega) dX12_treats_122 (by decide) (fun c49 => ?_) (fun c49 => False.elim (by omega))
            refine lv_iconst (v := zI 0) hx hb dX12_treats_140 rfl ?_
            rw [hQ]
            exact e_z F w hr hlocks (nar_z (by omega)) ⟨_, rfl, ⟨by omega, by omega⟩, ⟨nn, (hgnn), ⟨by omega, by omega⟩, (by omega)⟩, hI, hF⟩ dX12_treats_141
          · refine r_val (v := zI 2) (congrArg zI c48) ?_
            refine lv_tableIn (tgt := 142) hx hb dX12_treats_82 (by decide) (by decide) (off := 60) rfl (by decide) ?_
            refine lv_iload hx hb dX12_treats_142 (lv_at hl 0 rfl) ?_
            refine z_if_ne (tgt := 154) hx hb (by omega) dX12_treats_144 (by decide) (fun c50 => ?_) (fun c50 => False.elim (by omega))
            refine lv_iconst (v := zI 0) hx hb dX12_treats_154 rfl ?_
            rw [hQ]
            exact e_z F w hr hlocks (nar_z (by omega)) ⟨_, rfl, ⟨by omega, by omega⟩, ⟨nn, (hgnn), ⟨by omega, by omega⟩, (by omega)⟩, hI, hF⟩ dX12_treats_155
          · refine r_val (v := zI 3) (congrArg zI c48) ?_
            refine lv_tableIn (tgt := 156) hx hb dX12_treats_82 (by decide) (by decide) (off := 74) rfl (by decide) ?_
            refine lv_iload hx hb dX12_treats_156 (lv_at hl 0 rfl) ?_
            refine z_if_ne (tgt := 198) hx hb (by omega) dX12_treats_158 (by decide) (fun c51 => ?_) (fun c51 => False.elim (by omega))
            refine lv_iconst (v := zI 0) hx hb dX12_treats_198 rfl ?_
            rw [hQ]
            exact e_z F w hr hlocks (nar_z (by omega)) ⟨_, rfl, ⟨by omega, by omega⟩, ⟨nn, (hgnn), ⟨by omega, by omega⟩, (by omega)⟩, hI, hF⟩ dX12_treats_199
          · refine r_val (v := zI 4) (congrArg zI c48) ?_
            refine lv_tableIn (tgt := 200) hx hb dX12_treats_82 (by decide) (by decide) (off := 118) rfl (by decide) ?_
            refine lv_iload hx hb dX12_treats_200 (lv_at hl 0 rfl) ?_
            refine z_if_eq (tgt := 212) hx hb (by omega) dX12_treats_202 (by decide) (fun c52 => False.elim (by omega)) (fun c52 => ?_)
            refine lv_aload_n hx hb dX12_treats_205 rfl (lv_at hl 3 rfl) ?_
            refine lv_iload_n hx hb dX12_treats_206 rfl (lv_at hl 5 rfl) ?_
            refine lv_iload hx hb dX12_treats_207 (lv_at hl 1 rfl) ?_
            refine k_Vv F w (As := [.int (zI t), .int (zI 0)]) (rest := []) (a := 146) (kd_lt (a := 146) (show kd 146 = (12, 0, 0) from rfl) (by decide)) (sh_12 rfl _ _) rfl (q_X12_docks_0 (t := t) ⟨by omega, by omega⟩ (x := 0) ⟨by omega, by omega⟩ (nn := nn) (hgnn) ⟨by omega, by omega⟩ (by omega) hI) gv_X12_127 hv_X12_docks ⟨(Nat.le_of_ble_eq_true rfl), (Nat.le_of_ble_eq_true rfl)⟩ hl.1 rfl (Nat.le_of_ble_eq_true rfl) ⟨Nat.zero_le _, Nat.zero_le _⟩ dX12_treats_209 (fun N54 H locs hp w => ?_)
            obtain ⟨hIN54, hFN54⟩ := hp
            have hGN54 := Fr.tr hF hFN54 (S := (fun b9 k9 => (b9 = 146 ∧ k9 = 3) ∨ b9 = 148)) (fun b k h => by (try dsimp only at h ⊢); rcases h with ⟨rfl, rfl⟩ | ⟨rfl, q1, q2⟩ <;> first | decide | omega)
            have kn56 : N54.1 148 0 = zI nn := (hFN54 148 0 (by first | decide | (dsimp only; first | done | decide | omega) | omega)).trans (hgnn)
            refine lv_iconst (v := zI 0) hx hb dX12_treats_212 rfl ?_
            rw [hQ]
            exact e_z F w hr hlocks (nar_z (by omega)) ⟨_, rfl, ⟨by omega, by omega⟩, ⟨nn, (kn56), ⟨by omega, by omega⟩, (by omega)⟩, hIN54, hGN54⟩ dX12_treats_213
          · refine r_val (v := zI 5) (congrArg zI c48) ?_
            refine lv_tableIn (tgt := 214) hx hb dX12_treats_82 (by decide) (by decide) (off := 132) rfl (by decide) ?_
            refine lv_iload hx hb dX12_treats_214 (lv_at hl 0 rfl) ?_
            refine z_if_ne (tgt := 221) hx hb (by omega) dX12_treats_216 (by decide) (fun c57 => ?_) (fun c57 => False.elim (by omega))
            refine lv_aload_n hx hb dX12_treats_221 rfl (lv_at hl 3 rfl) ?_
            refine f_12_2 F w (a := 146) rfl tb_45 dX12_treats_222 ?_
            refine lv_iload_n hx hb dX12_treats_225 rfl (lv_at hl 5 rfl) ?_
            refine k_Sv F w (As := [.ref (B + 148), .int (zI t)]) (rest := []) (q_remove_148 (t := t) ⟨by omega, by omega⟩ (nn := nn) (hgnn) ⟨by omega, by omega⟩ (by omega) hI) gs_X12_108 hs_X12_remove ⟨(Nat.le_of_ble_eq_true rfl), (Nat.le_of_ble_eq_true rfl)⟩ hl.1 rfl (Nat.le_of_ble_eq_true rfl) ⟨Nat.zero_le _, Nat.zero_le _⟩ dX12_treats_226 (fun N59 H locs hp w => ?_)
            obtain ⟨yN59_148_0, hIN59, hFN59⟩ := hp
            have hGN59 := Fr.tr hF hFN59 (S := (fun b9 k9 => (b9 = 146 ∧ k9 = 3) ∨ b9 = 148)) (fun b k h => by (try dsimp only at h ⊢); rcases h with rfl <;> first | decide | omega)
            refine lv_aload_n hx hb dX12_treats_229 rfl (lv_at hl 3 rfl) ?_
            refine lv_dup hx hb dX12_treats_230 rfl ?_
            refine f_12_3 F w (a := 146) rfl tb_46 dX12_treats_231 ?_
            obtain ⟨z61, bz61, ez61⟩ := IvR.ld (k := 3) hIN59 (show ivr 146 3 = ((-2147483648), 2147483647) from rfl) (show 146 ≤ 146 ∧ 146 < 159 by decide)
            refine r_val ez61 ?_
            refine lv_iconst (v := zI 1) hx hb dX12_treats_234 rfl ?_
            obtain ⟨z62, bz62, x0z62, ez62⟩ := add_ex z61 1
            refine lv_iadd hx hb dX12_treats_235 ?_
            refine r_val ez62 ?_
            refine u_12_3 F w (a := 146) rfl tb_46 dX12_treats_236 (fun H locs w => ?_)
            refine lv_iconst (v := zI 1) hx hb dX12_treats_239 rfl ?_
            rw [hQ]
            exact e_z F w hr hlocks (nar_z (by omega)) ⟨_, rfl, ⟨by omega, by omega⟩, ⟨(nn - 1), ((st_ne (Or.inl (by decide))).trans yN59_148_0), ⟨by omega, by omega⟩, (by omega)⟩, (IvR.to hIN59 (a := 146) (k := 3) (x := z62) (show ivr 146 3 = ((-2147483648), 2147483647) from rfl) ⟨by omega, by omega⟩ ⟨by decide, by decide, by decide, fun q9 => absurd q9 (by decide)⟩), (Fr.to hGN59 (by first | decide | (dsimp only; first | done | decide | omega) | omega))⟩ dX12_treats_240
          · refine r_val (v := zI 6) (congrArg zI c48) ?_
            refine lv_tableIn (tgt := 241) hx hb dX12_treats_82 (by decide) (by decide) (off := 159) rfl (by decide) ?_
            refine lv_aload_n hx hb dX12_treats_241 rfl (lv_at hl 3 rfl) ?_
            refine lv_iload_n hx hb dX12_treats_242 rfl (lv_at hl 5 rfl) ?_
            refine k_Vv F w (As := [.int (zI t)]) (rest := []) (a := 146) (kd_lt (a := 146) (show kd 146 = (12, 0, 0) from rfl) (by decide)) (sh_12 rfl _ _) rfl (q_X12_fuses (t := t) ⟨by omega, by omega⟩ (nn := nn) (hgnn) ⟨by omega, by omega⟩ (by omega) hI) gv_X12_130 hv_X12_fuses ⟨(Nat.le_of_ble_eq_true rfl), (Nat.le_of_ble_eq_true rfl)⟩ hl.1 rfl (Nat.le_of_ble_eq_true rfl) ⟨Nat.zero_le _, Nat.zero_le _⟩ dX12_treats_243 (fun N64 H locs hp w => ?_)
            obtain ⟨⟨nz650, enz650, xz65⟩, hIN64, hFN64⟩ := hp
            have hGN64 := Fr.tr hF hFN64 (S := (fun b9 k9 => (b9 = 146 ∧ k9 = 3) ∨ b9 = 148)) (fun b k h => by (try dsimp only at h ⊢); rcases h with ⟨rfl, rfl⟩ | rfl <;> first | decide | omega)
            refine lv_iconst (v := zI 0) hx hb dX12_treats_246 rfl ?_
            rw [hQ]
            exact e_z F w hr hlocks (nar_z (by omega)) ⟨_, rfl, ⟨by omega, by omega⟩, ⟨nz650, (enz650), ⟨by omega, by omega⟩, (by omega)⟩, hIN64, hGN64⟩ dX12_treats_247
          · refine lv_tableOut (tgt := 248) hx hb dX12_treats_82 (by rw [zI_toInt (by omega)]; omega) (by decide) ?_
            refine lv_aload_n hx hb dX12_treats_248 rfl (lv_at hl 3 rfl) ?_
            refine lv_iload_n hx hb dX12_treats_249 rfl (lv_at hl 5 rfl) ?_
            refine lv_aload_n hx hb dX12_treats_250 rfl (lv_at hl 3 rfl) ?_
            refine f_12_4 F w (a := 146) rfl tb_532 dX12_treats_251 ?_
            refine lv_iload_n hx hb dX12_treats_254 rfl (lv_at hl 2 rfl) ?_
            refine lv_iconst (v := zI 3) hx hb dX12_treats_255 rfl ?_
            refine z_iadd (z := ((8 * x) + 3)) hx hb dX12_treats_256 (by omega) ?_
            refine g_iald F w (a := 149) rfl (j := (Int.toNat ((8 * x) + 3))) (ix_z (by omega) (by omega)) (by omega) dX12_treats_257 ?_
            obtain ⟨z66, bz66, ez66⟩ := IvR.ld (k := (Int.toNat ((8 * x) + 3))) hI (show ivr 149 (Int.toNat ((8 * x) + 3)) = ((-99), 300) from rfl) (show 146 ≤ 149 ∧ 149 < 159 by decide)
            refine r_val ez66 ?_
            refine k_Vv F w (As := [.int (zI t), .int (zI z66)]) (rest := []) (a := 146) (kd_lt (a := 146) (show kd 146 = (12, 0, 0) from rfl) (by decide)) (sh_12 rfl _ _) rfl (q_X12_turns (t := t) ⟨by omega, by omega⟩ (x := z66) ⟨by omega, by omega⟩  hI) gv_X12_134 hv_X12_turns ⟨(Nat.le_of_ble_eq_true rfl), (Nat.le_of_ble_eq_true rfl)⟩ hl.1 rfl (Nat.le_of_ble_eq_true rfl) ⟨Nat.zero_le _, Nat.zero_le _⟩ dX12_treats_258 (fun N68 H locs hp w => ?_)
            obtain ⟨hIN68, hFN68⟩ := hp
            have hGN68 := Fr.tr hF hFN68 (S := (fun b9 k9 => (b9 = 146 ∧ k9 = 3) ∨ b9 = 148)) (fun b k h => by (try dsimp only at h ⊢); rcases h with ⟨rfl, rfl⟩ | ⟨rfl, q1, q2⟩ <;> first | decide | omega)
            have kn70 : N68.1 148 0 = zI nn := (hFN68 148 0 (by first | decide | (dsimp only; first | done | decide | omega) | omega)).trans (hgnn)
            refine lv_iconst (v := zI 0) hx hb dX12_treats_261 rfl ?_
            rw [hQ]
            exact e_z F w hr hlocks (nar_z (by omega)) ⟨_, rfl, ⟨by omega, by omega⟩, ⟨nn, (kn70), ⟨by omega, by omega⟩, (by omega)⟩, hIN68, hGN68⟩ dX12_treats_262
      · refine lv_iconst (v := zI 1) hx hb dX12_treats_50 rfl ?_
        refine lv_goto (tgt := 55) hx hb dX12_treats_51 (by decide) ?_
        refine lv_istore (lv' := [(4, .int (zI 1)), (3, .int (zI (8 * x))), (0, .ref (B + 146)), (1, .int (zI x)), (2, .int (zI t))]) hx hb dX12_treats_55 hl (by decide) rfl (fun ls hl => ?_)
        refine lv_aload_n hx hb dX12_treats_57 rfl (lv_at hl 2 rfl) ?_
        refine f_12_2 F w (a := 146) rfl tb_45 dX12_treats_58 ?_
        refine lv_bipush (v := zI 13) hx hb dX12_treats_61 (by decide) ?_
        refine lv_iload_n hx hb dX12_treats_63 rfl (lv_at hl 4 rfl) ?_
        refine z_iadd (z := (t + 13)) hx hb dX12_treats_64 (by omega) ?_
        refine g_iald F w (a := 148) rfl (j := (13 + Int.toNat t)) (ix_l (t := t) (by omega) (by omega)) (by omega) dX12_treats_65 ?_
        obtain ⟨z71, bz71, ez71⟩ := IvR.ld (k := (13 + Int.toNat t)) hI (wiv_l (a := 148) (k := (13 + Int.toNat t)) (by omega) (by omega)) (show 146 ≤ 148 ∧ 148 < 159 by decide)
        refine r_val ez71 ?_
        refine z_if_ne (tgt := 73) hx hb (by omega) dX12_treats_66 (by decide) (fun c72 => ?_) (fun c72 => ?_)
        · refine lv_iconst (v := zI 0) hx hb dX12_treats_73 rfl ?_
          refine lv_istore (lv' := [(5, .int (zI 0)), (4, .int (zI 1)), (3, .int (zI (8 * x))), (0, .ref (B + 146)), (1, .int (zI x)), (2, .int (zI t))]) hx hb dX12_treats_74 hl (by decide) rfl (fun ls hl => ?_)
          refine lv_aload_n hx hb dX12_treats_76 rfl (lv_at hl 3 rfl) ?_
          refine f_12_4 F w (a := 146) rfl tb_532 dX12_treats_77 ?_
          refine lv_iload_n hx hb dX12_treats_80 rfl (lv_at hl 2 rfl) ?_
          refine g_iald F w (a := 149) rfl (j := (Int.toNat (8 * x))) (ix_z (by omega) (by omega)) (by omega) dX12_treats_81 ?_
          obtain ⟨z73, bz73, ez73⟩ := IvR.ld (k := (Int.toNat (8 * x))) hI (show ivr 149 (Int.toNat (8 * x)) = ((-99), 300) from rfl) (show 146 ≤ 149 ∧ 149 < 159 by decide)
          refine r_val ez73 ?_
          rcases (show z73 = 1 ∨ z73 = 2 ∨ z73 = 3 ∨ z73 = 4 ∨ z73 = 5 ∨ z73 = 6 ∨ (z73 ≠ 1 ∧ z73 ≠ 2 ∧ z73 ≠ 3 ∧ z73 ≠ 4 ∧ z73 ≠ 5 ∧ z73 ≠ 6) by omega) with c74 | c74 | c74 | c74 | c74 | c74 | c74
          · refine r_val (v := zI 1) (congrArg zI c74) ?_
            refine lv_tableIn (tgt := 120) hx hb dX12_treats_82 (by decide) (by decide) (off := 38) rfl (by decide) ?_
            refine lv_iload hx hb dX12_treats_120 (lv_at hl 0 rfl) ?_
            refine z_if_ne (tgt := 140) hx hb (by omega) dX12_treats_122 (by decide) (fun c75 => False.elim (by omega)) (fun c75 => ?_)
            refine lv_aload_n hx hb dX12_treats_125 rfl (lv_at hl 3 rfl) ?_
            refine lv_iload_n hx hb dX12_treats_126 rfl (lv_at hl 5 rfl) ?_
            refine lv_iload hx hb dX12_treats_127 (lv_at hl 1 rfl) ?_
            refine lv_aload_n hx hb dX12_treats_129 rfl (lv_at hl 3 rfl) ?_
            refine f_12_4 F w (a := 146) rfl tb_532 dX12_treats_130 ?_
            refine lv_iload_n hx hb dX12_treats_133 rfl (lv_at hl 2 rfl) ?_
            refine lv_iconst (v := zI 3) hx hb dX12_treats_134 rfl ?_
            refine z_iadd (z := ((8 * x) + 3)) hx hb dX12_treats_135 (by omega) ?_
            refine g_iald F w (a := 149) rfl (j := (Int.toNat ((8 * x) + 3))) (ix_z (by omega) (by omega)) (by omega) dX12_treats_136 ?_
            obtain ⟨z76, bz76, ez76⟩ := IvR.ld (k := (Int.toNat ((8 * x) + 3))) hI (show ivr 149 (Int.toNat ((8 * x) + 3)) = ((-99), 300) from rfl) (show 146 ≤ 149 ∧ 149 < 159 by decide)
            refine r_val ez76 ?_
            refine k_Vv F w (As := [.int (zI t), .int (zI 1), .int (zI z76)]) (rest := []) (a := 146) (kd_lt (a := 146) (show kd 146 = (12, 0, 0) from rfl) (by decide)) (sh_12 rfl _ _) rfl (q_X12_spreads (t := t) ⟨by omega, by omega⟩ (x := 1) ⟨by omega, by omega⟩ (x1 := z76) ⟨by omega, by omega⟩ (nn := nn) (hgnn) ⟨by omega, by omega⟩ (by omega) hI) gv_X12_119 hv_X12_spreads ⟨(Nat.le_of_ble_eq_true rfl), (Nat.le_of_ble_eq_true rfl)⟩ hl.1 rfl (Nat.le_of_ble_eq_true rfl) ⟨Nat.zero_le _, Nat.zero_le _⟩ dX12_treats_137 (fun N78 H locs hp w => ?_)
            obtain ⟨hIN78, hFN78⟩ := hp
            have hGN78 := Fr.tr hF hFN78 (S := (fun b9 k9 => (b9 = 146 ∧ k9 = 3) ∨ b9 = 148)) (fun b k h => by (try dsimp only at h ⊢); rcases h with ⟨rfl, rfl⟩ | ⟨rfl, q1, q2⟩ <;> first | decide | omega)
            have kn80 : N78.1 148 0 = zI nn := (hFN78 148 0 (by first | decide | (dsimp only; first | done | decide | omega) | omega)).trans (hgnn)
            refine lv_iconst (v := zI 0) hx hb dX12_treats_140 rfl ?_
            rw [hQ]
            exact e_z F w hr hlocks (nar_z (by omega)) ⟨_, rfl, ⟨by omega, by omega⟩, ⟨nn, (kn80), ⟨by omega, by omega⟩, (by omega)⟩, hIN78, hGN78⟩ dX12_treats_141
          · refine r_val (v := zI 2) (congrArg zI c74) ?_
            refine lv_tableIn (tgt := 142) hx hb dX12_treats_82 (by decide) (by decide) (off := 60) rfl (by decide) ?_
            refine lv_iload hx hb dX12_treats_142 (lv_at hl 0 rfl) ?_
            refine z_if_ne (tgt := 154) hx hb (by omega) dX12_treats_144 (by decide) (fun c81 => False.elim (by omega)) (fun c81 => ?_)
            refine lv_aload_n hx hb dX12_treats_147 rfl (lv_at hl 3 rfl) ?_
            refine lv_iload_n hx hb dX12_treats_148 rfl (lv_at hl 5 rfl) ?_
            refine lv_iload hx hb dX12_treats_149 (lv_at hl 1 rfl) ?_
            refine k_Vv F w (As := [.int (zI t), .int (zI 1)]) (rest := []) (a := 146) (kd_lt (a := 146) (show kd 146 = (12, 0, 0) from rfl) (by decide)) (sh_12 rfl _ _) rfl (q_X12_shifts (t := t) ⟨by omega, by omega⟩ (x := 1) ⟨by omega, by omega⟩ (nn := nn) (hgnn) ⟨by omega, by omega⟩ (ll := z71) (ez71) ⟨by omega, by omega⟩ (by omega) (by omega) hI) gv_X12_123 hv_X12_shifts ⟨(Nat.le_of_ble_eq_true rfl), (Nat.le_of_ble_eq_true rfl)⟩ hl.1 rfl (Nat.le_of_ble_eq_true rfl) ⟨Nat.zero_le _, Nat.zero_le _⟩ dX12_treats_151 (fun N83 H locs hp w => ?_)
            obtain ⟨hIN83, hFN83⟩ := hp
            have hGN83 := Fr.tr hF hFN83 (S := (fun b9 k9 => (b9 = 146 ∧ k9 = 3) ∨ b9 = 148)) (fun b k h => by (try dsimp only at h ⊢); rcases h with ⟨rfl, rfl⟩ | ⟨rfl, q1, q2⟩ <;> first | decide | omega)
            have kn85 : N83.1 148 0 = zI nn := (hFN83 148 0 (by first | decide | (dsimp only; first | done | decide | omega) | omega)).trans (hgnn)
            refine lv_iconst (v := zI 0) hx hb dX12_treats_154 rfl ?_
            rw [hQ]
            exact e_z F w hr hlocks (nar_z (by omega)) ⟨_, rfl, ⟨by omega, by omega⟩, ⟨nn, (kn85), ⟨by omega, by omega⟩, (by omega)⟩, hIN83, hGN83⟩ dX12_treats_155
          · refine r_val (v := zI 3) (congrArg zI c74) ?_
            refine lv_tableIn (tgt := 156) hx hb dX12_treats_82 (by decide) (by decide) (off := 74) rfl (by decide) ?_
            refine lv_iload hx hb dX12_treats_156 (lv_at hl 0 rfl) ?_
            refine z_if_ne (tgt := 198) hx hb (by omega) dX12_treats_158 (by decide) (fun c86 => False.elim (by omega)) (fun c86 => ?_)
            refine lv_aload_n hx hb dX12_treats_161 rfl (lv_at hl 3 rfl) ?_
            refine lv_iload_n hx hb dX12_treats_162 rfl (lv_at hl 5 rfl) ?_
            refine lv_iload hx hb dX12_treats_163 (lv_at hl 1 rfl) ?_
            refine z_if_eq (tgt := 183) hx hb (by omega) dX12_treats_165 (by decide) (fun c87 => False.elim (by omega)) (fun c87 => ?_)
            refine lv_aload_n hx hb dX12_treats_168 rfl (lv_at hl 3 rfl) ?_
            refine f_12_2 F w (a := 146) rfl tb_45 dX12_treats_169 ?_
            refine lv_bipush (v := zI 13) hx hb dX12_treats_172 (by decide) ?_
            refine lv_iload_n hx hb dX12_treats_174 rfl (lv_at hl 5 rfl) ?_
            refine z_iadd (z := (t + 13)) hx hb dX12_treats_175 (by omega) ?_
            refine g_iald F w (a := 148) rfl (j := (13 + Int.toNat t)) (ix_l (t := t) (by omega) (by omega)) (by omega) dX12_treats_176 ?_
            refine r_val (v := zI z71) (ez71) ?_
            refine k_Si F w (As := [.int (zI z71)]) (rest := [.int (zI t), .ref (B + 146)]) (q_lastOf (x := z71) ⟨by omega, by omega⟩ ) gs_X12_59 hs_X12_lastOf ⟨(Nat.le_of_ble_eq_true rfl), (Nat.le_of_ble_eq_true rfl)⟩ hl.1 rfl (Nat.le_of_ble_eq_true rfl) ⟨Nat.zero_le _, Nat.zero_le _⟩ dX12_treats_177 (fun r88 N89 H locs hp w => ?_)
            obtain ⟨hrz90, hMz90⟩ := hp
            rw [hMz90] at w
            obtain ⟨z90, bz90, xz90, xcz90, ez90⟩ := hig2_ex z71 (by omega)
            refine r_val (hrz90.trans ez90) ?_
            refine lv_goto (tgt := 195) hx hb dX12_treats_180 (by decide) ?_
            refine k_Vv F w (As := [.int (zI t), .int (zI z90)]) (rest := []) (a := 146) (kd_lt (a := 146) (show kd 146 = (12, 0, 0) from rfl) (by decide)) (sh_12 rfl _ _) rfl (q_X12_goes (t := t) ⟨by omega, by omega⟩ (y := z90) ⟨by omega, by omega⟩  hI) gv_X12_102 hv_X12_goes ⟨(Nat.le_of_ble_eq_true rfl), (Nat.le_of_ble_eq_true rfl)⟩ hl.1 rfl (Nat.le_of_ble_eq_true rfl) ⟨Nat.zero_le _, Nat.zero_le _⟩ dX12_treats_195 (fun N92 H locs hp w => ?_)
            obtain ⟨hIN92, hFN92⟩ := hp
            have hGN92 := Fr.tr hF hFN92 (S := (fun b9 k9 => (b9 = 146 ∧ k9 = 3) ∨ b9 = 148)) (fun b k h => by (try dsimp only at h ⊢); rcases h with ⟨rfl, rfl⟩ | ⟨rfl, q1, q2⟩ <;> first | decide | omega)
            have kn94 : N92.1 148 0 = zI nn := (hFN92 148 0 (by first | decide | (dsimp only; first | done | decide | omega) | omega)).trans (hgnn)
            refine lv_iconst (v := zI 0) hx hb dX12_treats_198 rfl ?_
            rw [hQ]
            exact e_z F w hr hlocks (nar_z (by omega)) ⟨_, rfl, ⟨by omega, by omega⟩, ⟨nn, (kn94), ⟨by omega, by omega⟩, (by omega)⟩, hIN92, hGN92⟩ dX12_treats_199
          · refine r_val (v := zI 4) (congrArg zI c74) ?_
            refine lv_tableIn (tgt := 200) hx hb dX12_treats_82 (by decide) (by decide) (off := 118) rfl (by decide) ?_
            refine lv_iload hx hb dX12_treats_200 (lv_at hl 0 rfl) ?_
            refine z_if_eq (tgt := 212) hx hb (by omega) dX12_treats_202 (by decide) (fun c95 => ?_) (fun c95 => False.elim (by omega))
            refine lv_iconst (v := zI 0) hx hb dX12_treats_212 rfl ?_
            rw [hQ]
            exact e_z F w hr hlocks (nar_z (by omega)) ⟨_, rfl, ⟨by omega, by omega⟩, ⟨nn, (hgnn), ⟨by omega, by omega⟩, (by omega)⟩, hI, hF⟩ dX12_treats_213
          · refine r_val (v := zI 5) (congrArg zI c74) ?_
            refine lv_tableIn (tgt := 214) hx hb dX12_treats_82 (by decide) (by decide) (off := 132) rfl (by decide) ?_
            refine lv_iload hx hb dX12_treats_214 (lv_at hl 0 rfl) ?_
            refine z_if_ne (tgt := 221) hx hb (by omega) dX12_treats_216 (by decide) (fun c96 => False.elim (by omega)) (fun c96 => ?_)
            refine lv_iconst (v := zI 0) hx hb dX12_treats_219 rfl ?_
            rw [hQ]
            exact e_z F w hr hlocks (nar_z (by omega)) ⟨_, rfl, ⟨by omega, by omega⟩, ⟨nn, (hgnn), ⟨by omega, by omega⟩, (by omega)⟩, hI, hF⟩ dX12_treats_220
          · refine r_val (v := zI 6) (congrArg zI c74) ?_
            refine lv_tableIn (tgt := 241) hx hb dX12_treats_82 (by decide) (by decide) (off := 159) rfl (by decide) ?_
            refine lv_aload_n hx hb dX12_treats_241 rfl (lv_at hl 3 rfl) ?_
            refine lv_iload_n hx hb dX12_treats_242 rfl (lv_at hl 5 rfl) ?_
            refine k_Vv F w (As := [.int (zI t)]) (rest := []) (a := 146) (kd_lt (a := 146) (show kd 146 = (12, 0, 0) from rfl) (by decide)) (sh_12 rfl _ _) rfl (q_X12_fuses (t := t) ⟨by omega, by omega⟩ (nn := nn) (hgnn) ⟨by omega, by omega⟩ (by omega) hI) gv_X12_130 hv_X12_fuses ⟨(Nat.le_of_ble_eq_true rfl), (Nat.le_of_ble_eq_true rfl)⟩ hl.1 rfl (Nat.le_of_ble_eq_true rfl) ⟨Nat.zero_le _, Nat.zero_le _⟩ dX12_treats_243 (fun N98 H locs hp w => ?_)
            obtain ⟨⟨nz990, enz990, xz99⟩, hIN98, hFN98⟩ := hp
            have hGN98 := Fr.tr hF hFN98 (S := (fun b9 k9 => (b9 = 146 ∧ k9 = 3) ∨ b9 = 148)) (fun b k h => by (try dsimp only at h ⊢); rcases h with ⟨rfl, rfl⟩ | rfl <;> first | decide | omega)
            refine lv_iconst (v := zI 0) hx hb dX12_treats_246 rfl ?_
            rw [hQ]
            exact e_z F w hr hlocks (nar_z (by omega)) ⟨_, rfl, ⟨by omega, by omega⟩, ⟨nz990, (enz990), ⟨by omega, by omega⟩, (by omega)⟩, hIN98, hGN98⟩ dX12_treats_247
          · refine lv_tableOut (tgt := 248) hx hb dX12_treats_82 (by rw [zI_toInt (by omega)]; omega) (by decide) ?_
            refine lv_aload_n hx hb dX12_treats_248 rfl (lv_at hl 3 rfl) ?_
            refine lv_iload_n hx hb dX12_treats_249 rfl (lv_at hl 5 rfl) ?_
            refine lv_aload_n hx hb dX12_treats_250 rfl (lv_at hl 3 rfl) ?_
            refine f_12_4 F w (a := 146) rfl tb_532 dX12_treats_251 ?_
            refine lv_iload_n hx hb dX12_treats_254 rfl (lv_at hl 2 rfl) ?_
            refine lv_iconst (v := zI 3) hx hb dX12_treats_255 rfl ?_
            refine z_iadd (z := ((8 * x) + 3)) hx hb dX12_treats_256 (by omega) ?_
            refine g_iald F w (a := 149) rfl (j := (Int.toNat ((8 * x) + 3))) (ix_z (by omega) (by omega)) (by omega) dX12_treats_257 ?_
            obtain ⟨z100, bz100, ez100⟩ := IvR.ld (k := (Int.toNat ((8 * x) + 3))) hI (show ivr 149 (Int.toNat ((8 * x) + 3)) = ((-99), 300) from rfl) (show 146 ≤ 149 ∧ 149 < 159 by decide)
            refine r_val ez100 ?_
            refine k_Vv F w (As := [.int (zI t), .int (zI z100)]) (rest := []) (a := 146) (kd_lt (a := 146) (show kd 146 = (12, 0, 0) from rfl) (by decide)) (sh_12 rfl _ _) rfl (q_X12_turns (t := t) ⟨by omega, by omega⟩ (x := z100) ⟨by omega, by omega⟩  hI) gv_X12_134 hv_X12_turns ⟨(Nat.le_of_ble_eq_true rfl), (Nat.le_of_ble_eq_true rfl)⟩ hl.1 rfl (Nat.le_of_ble_eq_true rfl) ⟨Nat.zero_le _, Nat.zero_le _⟩ dX12_treats_258 (fun N102 H locs hp w => ?_)
            obtain ⟨hIN102, hFN102⟩ := hp
            have hGN102 := Fr.tr hF hFN102 (S := (fun b9 k9 => (b9 = 146 ∧ k9 = 3) ∨ b9 = 148)) (fun b k h => by (try dsimp only at h ⊢); rcases h with ⟨rfl, rfl⟩ | ⟨rfl, q1, q2⟩ <;> first | decide | omega)
            have kn104 : N102.1 148 0 = zI nn := (hFN102 148 0 (by first | decide | (dsimp only; first | done | decide | omega) | omega)).trans (hgnn)
            refine lv_iconst (v := zI 0) hx hb dX12_treats_261 rfl ?_
            rw [hQ]
            exact e_z F w hr hlocks (nar_z (by omega)) ⟨_, rfl, ⟨by omega, by omega⟩, ⟨nn, (kn104), ⟨by omega, by omega⟩, (by omega)⟩, hIN102, hGN102⟩ dX12_treats_262
        · refine lv_iconst (v := zI 1) hx hb dX12_treats_69 rfl ?_
          refine lv_goto (tgt := 74) hx hb dX12_treats_70 (by decide) ?_
          refine lv_istore (lv' := [(5, .int (zI 1)), (4, .int (zI 1)), (3, .int (zI (8 * x))), (0, .ref (B + 146)), (1, .int (zI x)), (2, .int (zI t))]) hx hb dX12_treats_74 hl (by decide) rfl (fun ls hl => ?_)
          refine lv_aload_n hx hb dX12_treats_76 rfl (lv_at hl 3 rfl) ?_
          refine f_12_4 F w (a := 146) rfl tb_532 dX12_treats_77 ?_
          refine lv_iload_n hx hb dX12_treats_80 rfl (lv_at hl 2 rfl) ?_
          refine g_iald F w (a := 149) rfl (j := (Int.toNat (8 * x))) (ix_z (by omega) (by omega)) (by omega) dX12_treats_81 ?_
          obtain ⟨z105, bz105, ez105⟩ := IvR.ld (k := (Int.toNat (8 * x))) hI (show ivr 149 (Int.toNat (8 * x)) = ((-99), 300) from rfl) (show 146 ≤ 149 ∧ 149 < 159 by decide)
          refine r_val ez105 ?_
          rcases (show z105 = 1 ∨ z105 = 2 ∨ z105 = 3 ∨ z105 = 4 ∨ z105 = 5 ∨ z105 = 6 ∨ (z105 ≠ 1 ∧ z105 ≠ 2 ∧ z105 ≠ 3 ∧ z105 ≠ 4 ∧ z105 ≠ 5 ∧ z105 ≠ 6) by omega) with c106 | c106 | c106 | c106 | c106 | c106 | c106
          · refine r_val (v := zI 1) (congrArg zI c106) ?_
            refine lv_tableIn (tgt := 120) hx hb dX12_treats_82 (by decide) (by decide) (off := 38) rfl (by decide) ?_
            refine lv_iload hx hb dX12_treats_120 (lv_at hl 0 rfl) ?_
            refine z_if_ne (tgt := 140) hx hb (by omega) dX12_treats_122 (by decide) (fun c107 => ?_) (fun c107 => False.elim (by omega))
            refine lv_iconst (v := zI 0) hx hb dX12_treats_140 rfl ?_
            rw [hQ]
            exact e_z F w hr hlocks (nar_z (by omega)) ⟨_, rfl, ⟨by omega, by omega⟩, ⟨nn, (hgnn), ⟨by omega, by omega⟩, (by omega)⟩, hI, hF⟩ dX12_treats_141
          · refine r_val (v := zI 2) (congrArg zI c106) ?_
            refine lv_tableIn (tgt := 142) hx hb dX12_treats_82 (by decide) (by decide) (off := 60) rfl (by decide) ?_
            refine lv_iload hx hb dX12_treats_142 (lv_at hl 0 rfl) ?_
            refine z_if_ne (tgt := 154) hx hb (by omega) dX12_treats_144 (by decide) (fun c108 => ?_) (fun c108 => False.elim (by omega))
            refine lv_iconst (v := zI 0) hx hb dX12_treats_154 rfl ?_
            rw [hQ]
            exact e_z F w hr hlocks (nar_z (by omega)) ⟨_, rfl, ⟨by omega, by omega⟩, ⟨nn, (hgnn), ⟨by omega, by omega⟩, (by omega)⟩, hI, hF⟩ dX12_treats_155
          · refine r_val (v := zI 3) (congrArg zI c106) ?_
            refine lv_tableIn (tgt := 156) hx hb dX12_treats_82 (by decide) (by decide) (off := 74) rfl (by decide) ?_
            refine lv_iload hx hb dX12_treats_156 (lv_at hl 0 rfl) ?_
            refine z_if_ne (tgt := 198) hx hb (by omega) dX12_treats_158 (by decide) (fun c109 => ?_) (fun c109 => False.elim (by omega))
            refine lv_iconst (v := zI 0) hx hb dX12_treats_198 rfl ?_
            rw [hQ]
            exact e_z F w hr hlocks (nar_z (by omega)) ⟨_, rfl, ⟨by omega, by omega⟩, ⟨nn, (hgnn), ⟨by omega, by omega⟩, (by omega)⟩, hI, hF⟩ dX12_treats_199
          · refine r_val (v := zI 4) (congrArg zI c106) ?_
            refine lv_tableIn (tgt := 200) hx hb dX12_treats_82 (by decide) (by decide) (off := 118) rfl (by decide) ?_
            refine lv_iload hx hb dX12_treats_200 (lv_at hl 0 rfl) ?_
            refine z_if_eq (tgt := 212) hx hb (by omega) dX12_treats_202 (by decide) (fun c110 => False.elim (by omega)) (fun c110 => ?_)
            refine lv_aload_n hx hb dX12_treats_205 rfl (lv_at hl 3 rfl) ?_
            refine lv_iload_n hx hb dX12_treats_206 rfl (lv_at hl 5 rfl) ?_
            refine lv_iload hx hb dX12_treats_207 (lv_at hl 1 rfl) ?_
            refine k_Vv F w (As := [.int (zI t), .int (zI 1)]) (rest := []) (a := 146) (kd_lt (a := 146) (show kd 146 = (12, 0, 0) from rfl) (by decide)) (sh_12 rfl _ _) rfl (q_X12_docks_1 (t := t) ⟨by omega, by omega⟩ (x := 1) ⟨by omega, by omega⟩ (nn := nn) (hgnn) ⟨by omega, by omega⟩ (by omega) hI) gv_X12_127 hv_X12_docks ⟨(Nat.le_of_ble_eq_true rfl), (Nat.le_of_ble_eq_true rfl)⟩ hl.1 rfl (Nat.le_of_ble_eq_true rfl) ⟨Nat.zero_le _, Nat.zero_le _⟩ dX12_treats_209 (fun N112 H locs hp w => ?_)
            obtain ⟨hIN112, hFN112⟩ := hp
            have hGN112 := Fr.tr hF hFN112 (S := (fun b9 k9 => (b9 = 146 ∧ k9 = 3) ∨ b9 = 148)) (fun b k h => by (try dsimp only at h ⊢); rcases h with ⟨rfl, rfl⟩ | ⟨rfl, q1, q2⟩ <;> first | decide | omega)
            have kn114 : N112.1 148 0 = zI nn := (hFN112 148 0 (by first | decide | (dsimp only; first | done | decide | omega) | omega)).trans (hgnn)
            refine lv_iconst (v := zI 0) hx hb dX12_treats_212 rfl ?_
            rw [hQ]
            exact e_z F w hr hlocks (nar_z (by omega)) ⟨_, rfl, ⟨by omega, by omega⟩, ⟨nn, (kn114), ⟨by omega, by omega⟩, (by omega)⟩, hIN112, hGN112⟩ dX12_treats_213
          · refine r_val (v := zI 5) (congrArg zI c106) ?_
            refine lv_tableIn (tgt := 214) hx hb dX12_treats_82 (by decide) (by decide) (off := 132) rfl (by decide) ?_
            refine lv_iload hx hb dX12_treats_214 (lv_at hl 0 rfl) ?_
            refine z_if_ne (tgt := 221) hx hb (by omega) dX12_treats_216 (by decide) (fun c115 => ?_) (fun c115 => False.elim (by omega))
            refine lv_aload_n hx hb dX12_treats_221 rfl (lv_at hl 3 rfl) ?_
            refine f_12_2 F w (a := 146) rfl tb_45 dX12_treats_222 ?_
            refine lv_iload_n hx hb dX12_treats_225 rfl (lv_at hl 5 rfl) ?_
            refine k_Sv F w (As := [.ref (B + 148), .int (zI t)]) (rest := []) (q_remove_148 (t := t) ⟨by omega, by omega⟩ (nn := nn) (hgnn) ⟨by omega, by omega⟩ (by omega) hI) gs_X12_108 hs_X12_remove ⟨(Nat.le_of_ble_eq_true rfl), (Nat.le_of_ble_eq_true rfl)⟩ hl.1 rfl (Nat.le_of_ble_eq_true rfl) ⟨Nat.zero_le _, Nat.zero_le _⟩ dX12_treats_226 (fun N117 H locs hp w => ?_)
            obtain ⟨yN117_148_0, hIN117, hFN117⟩ := hp
            have hGN117 := Fr.tr hF hFN117 (S := (fun b9 k9 => (b9 = 146 ∧ k9 = 3) ∨ b9 = 148)) (fun b k h => by (try dsimp only at h ⊢); rcases h with rfl <;> first | decide | omega)
            refine lv_aload_n hx hb dX12_treats_229 rfl (lv_at hl 3 rfl) ?_
            refine lv_dup hx hb dX12_treats_230 rfl ?_
            refine f_12_3 F w (a := 146) rfl tb_46 dX12_treats_231 ?_
            obtain ⟨z119, bz119, ez119⟩ := IvR.ld (k := 3) hIN117 (show ivr 146 3 = ((-2147483648), 2147483647) from rfl) (show 146 ≤ 146 ∧ 146 < 159 by decide)
            refine r_val ez119 ?_
            refine lv_iconst (v := zI 1) hx hb dX12_treats_234 rfl ?_
            obtain ⟨z120, bz120, x0z120, ez120⟩ := add_ex z119 1
            refine lv_iadd hx hb dX12_treats_235 ?_
            refine r_val ez120 ?_
            refine u_12_3 F w (a := 146) rfl tb_46 dX12_treats_236 (fun H locs w => ?_)
            refine lv_iconst (v := zI 1) hx hb dX12_treats_239 rfl ?_
            rw [hQ]
            exact e_z F w hr hlocks (nar_z (by omega)) ⟨_, rfl, ⟨by omega, by omega⟩, ⟨(nn - 1), ((st_ne (Or.inl (by decide))).trans yN117_148_0), ⟨by omega, by omega⟩, (by omega)⟩, (IvR.to hIN117 (a := 146) (k := 3) (x := z120) (show ivr 146 3 = ((-2147483648), 2147483647) from rfl) ⟨by omega, by omega⟩ ⟨by decide, by decide, by decide, fun q9 => absurd q9 (by decide)⟩), (Fr.to hGN117 (by first | decide | (dsimp only; first | done | decide | omega) | omega))⟩ dX12_treats_240
          · refine r_val (v := zI 6) (congrArg zI c106) ?_
            refine lv_tableIn (tgt := 241) hx hb dX12_treats_82 (by decide) (by decide) (off := 159) rfl (by decide) ?_
            refine lv_aload_n hx hb dX12_treats_241 rfl (lv_at hl 3 rfl) ?_
            refine lv_iload_n hx hb dX12_treats_242 rfl (lv_at hl 5 rfl) ?_
            refine k_Vv F w (As := [.int (zI t)]) (rest := []) (a := 146) (kd_lt (a := 146) (show kd 146 = (12, 0, 0) from rfl) (by decide)) (sh_12 rfl _ _) rfl (q_X12_fuses (t := t) ⟨by omega, by omega⟩ (nn := nn) (hgnn) ⟨by omega, by omega⟩ (by omega) hI) gv_X12_130 hv_X12_fuses ⟨(Nat.le_of_ble_eq_true rfl), (Nat.le_of_ble_eq_true rfl)⟩ hl.1 rfl (Nat.le_of_ble_eq_true rfl) ⟨Nat.zero_le _, Nat.zero_le _⟩ dX12_treats_243 (fun N122 H locs hp w => ?_)
            obtain ⟨⟨nz1230, enz1230, xz123⟩, hIN122, hFN122⟩ := hp
            have hGN122 := Fr.tr hF hFN122 (S := (fun b9 k9 => (b9 = 146 ∧ k9 = 3) ∨ b9 = 148)) (fun b k h => by (try dsimp only at h ⊢); rcases h with ⟨rfl, rfl⟩ | rfl <;> first | decide | omega)
            refine lv_iconst (v := zI 0) hx hb dX12_treats_246 rfl ?_
            rw [hQ]
            exact e_z F w hr hlocks (nar_z (by omega)) ⟨_, rfl, ⟨by omega, by omega⟩, ⟨nz1230, (enz1230), ⟨by omega, by omega⟩, (by omega)⟩, hIN122, hGN122⟩ dX12_treats_247
          · refine lv_tableOut (tgt := 248) hx hb dX12_treats_82 (by rw [zI_toInt (by omega)]; omega) (by decide) ?_
            refine lv_aload_n hx hb dX12_treats_248 rfl (lv_at hl 3 rfl) ?_
            refine lv_iload_n hx hb dX12_treats_249 rfl (lv_at hl 5 rfl) ?_
            refine lv_aload_n hx hb dX12_treats_250 rfl (lv_at hl 3 rfl) ?_
            refine f_12_4 F w (a := 146) rfl tb_532 dX12_treats_251 ?_
            refine lv_iload_n hx hb dX12_treats_254 rfl (lv_at hl 2 rfl) ?_
            refine lv_iconst (v := zI 3) hx hb dX12_treats_255 rfl ?_
            refine z_iadd (z := ((8 * x) + 3)) hx hb dX12_treats_256 (by omega) ?_
            refine g_iald F w (a := 149) rfl (j := (Int.toNat ((8 * x) + 3))) (ix_z (by omega) (by omega)) (by omega) dX12_treats_257 ?_
            obtain ⟨z124, bz124, ez124⟩ := IvR.ld (k := (Int.toNat ((8 * x) + 3))) hI (show ivr 149 (Int.toNat ((8 * x) + 3)) = ((-99), 300) from rfl) (show 146 ≤ 149 ∧ 149 < 159 by decide)
            refine r_val ez124 ?_
            refine k_Vv F w (As := [.int (zI t), .int (zI z124)]) (rest := []) (a := 146) (kd_lt (a := 146) (show kd 146 = (12, 0, 0) from rfl) (by decide)) (sh_12 rfl _ _) rfl (q_X12_turns (t := t) ⟨by omega, by omega⟩ (x := z124) ⟨by omega, by omega⟩  hI) gv_X12_134 hv_X12_turns ⟨(Nat.le_of_ble_eq_true rfl), (Nat.le_of_ble_eq_true rfl)⟩ hl.1 rfl (Nat.le_of_ble_eq_true rfl) ⟨Nat.zero_le _, Nat.zero_le _⟩ dX12_treats_258 (fun N126 H locs hp w => ?_)
            obtain ⟨hIN126, hFN126⟩ := hp
            have hGN126 := Fr.tr hF hFN126 (S := (fun b9 k9 => (b9 = 146 ∧ k9 = 3) ∨ b9 = 148)) (fun b k h => by (try dsimp only at h ⊢); rcases h with ⟨rfl, rfl⟩ | ⟨rfl, q1, q2⟩ <;> first | decide | omega)
            have kn128 : N126.1 148 0 = zI nn := (hFN126 148 0 (by first | decide | (dsimp only; first | done | decide | omega) | omega)).trans (hgnn)
            refine lv_iconst (v := zI 0) hx hb dX12_treats_261 rfl ?_
            rw [hQ]
            exact e_z F w hr hlocks (nar_z (by omega)) ⟨_, rfl, ⟨by omega, by omega⟩, ⟨nn, (kn128), ⟨by omega, by omega⟩, (by omega)⟩, hIN126, hGN126⟩ dX12_treats_262
    · refine lv_iconst (v := zI 0) hx hb dX12_treats_36 rfl ?_
      rw [hQ]
      exact e_z F w hr hlocks (nar_z (by omega)) ⟨_, rfl, ⟨by omega, by omega⟩, ⟨nn, (hgnn), ⟨by omega, by omega⟩, (by omega)⟩, hI, hF⟩ dX12_treats_37
theorem dX12_passesOnce_0 : decode cX12_passesOnce 0 = .ok (.bipush 8, 2) := wdX12_passesOnce_0
theorem dX12_passesOnce_2 : decode cX12_passesOnce 2 = .ok (.iload_n 1, 1) := wdX12_passesOnce_2
theorem dX12_passesOnce_3 : decode cX12_passesOnce 3 = .ok (.imul, 1) := wdX12_passesOnce_3
theorem dX12_passesOnce_4 : decode cX12_passesOnce 4 = .ok (.istore_n 2, 1) := wdX12_passesOnce_4
theorem dX12_passesOnce_5 : decode cX12_passesOnce 5 = .ok (.aload_n 0, 1) := wdX12_passesOnce_5
theorem dX12_passesOnce_6 : decode cX12_passesOnce 6 = .ok (.getfield 20, 3) := wdX12_passesOnce_6
theorem dX12_passesOnce_9 : decode cX12_passesOnce 9 = .ok (.iload_n 2, 1) := wdX12_passesOnce_9
theorem dX12_passesOnce_10 : decode cX12_passesOnce 10 = .ok (.iaload, 1) := wdX12_passesOnce_10
theorem dX12_passesOnce_11 : decode cX12_passesOnce 11 = .ok (.istore_n 3, 1) := wdX12_passesOnce_11
theorem dX12_passesOnce_12 : decode cX12_passesOnce 12 = .ok (.iload_n 3, 1) := wdX12_passesOnce_12
theorem dX12_passesOnce_13 : decode cX12_passesOnce 13 = .ok (.invokestatic 137, 3) := wdX12_passesOnce_13
theorem tk_X12_hasSide : Cond.code yX12_hasSide cX12_hasSide 1 (some .boolean) ∈ TB := rtk_X12_hasSide
theorem gc_X12_hasSide : GoodIn TB (cw yX12_hasSide cX12_hasSide 1 (some .boolean)) := goodIn_c2 tk_X12_hasSide
theorem tb_560 : Cond.methodLink "ToneLinesModel" 137 yX12_hasSide ∈ TB := rtb_150
theorem tb_561 : Cond.static yX12_hasSide ∈ TB := rtb_151
theorem gs_X12_137 : GoodIn TB (va_wsS RX12 137 yX12_hasSide (cw yX12_hasSide cX12_hasSide 1 (some .boolean))) := goodIn_3 tb_560 tb_561 tb_38 gc_X12_hasSide
theorem hs_X12_hasSide : yX12_hasSide.cls ≠ "java/lang/invoke/MethodHandle" ∧ yX12_hasSide.cls ≠ "java/lang/invoke/VarHandle" ∧ (parseMethodDescriptor yX12_hasSide.desc).map (fun d => d.parameters.length) = some 1 := rhs_X12_hasSide
theorem dX12_passesOnce_16 : decode cX12_passesOnce 16 = .ok (.ifCond .eq 19, 3) := wdX12_passesOnce_16
theorem dX12_passesOnce_35 : decode cX12_passesOnce 35 = .ok (.iconst 0, 1) := wdX12_passesOnce_35
theorem dX12_passesOnce_36 : decode cX12_passesOnce 36 = .ok (.istore 4, 2) := wdX12_passesOnce_36
theorem dX12_passesOnce_38 : decode cX12_passesOnce 38 = .ok (.iload_n 3, 1) := wdX12_passesOnce_38
theorem dX12_passesOnce_39 : decode cX12_passesOnce 39 = .ok (.invokestatic 140, 3) := wdX12_passesOnce_39
theorem tk_X12_isBySyllables : Cond.code yX12_isBySyllables cX12_isBySyllables 1 (some .boolean) ∈ TB := rtk_X12_isBySyllables
theorem gc_X12_isBySyllables : GoodIn TB (cw yX12_isBySyllables cX12_isBySyllables 1 (some .boolean)) := goodIn_c2 tk_X12_isBySyllables
theorem tb_562 : Cond.methodLink "ToneLinesModel" 140 yX12_isBySyllables ∈ TB := rtb_152
theorem tb_563 : Cond.static yX12_isBySyllables ∈ TB := rtb_153
theorem gs_X12_140 : GoodIn TB (va_wsS RX12 140 yX12_isBySyllables (cw yX12_isBySyllables cX12_isBySyllables 1 (some .boolean))) := goodIn_3 tb_562 tb_563 tb_38 gc_X12_isBySyllables
theorem hs_X12_isBySyllables : yX12_isBySyllables.cls ≠ "java/lang/invoke/MethodHandle" ∧ yX12_isBySyllables.cls ≠ "java/lang/invoke/VarHandle" ∧ (parseMethodDescriptor yX12_isBySyllables.desc).map (fun d => d.parameters.length) = some 1 := rhs_X12_isBySyllables
theorem dX12_passesOnce_42 : decode cX12_passesOnce 42 = .ok (.ifCond .eq 118, 3) := wdX12_passesOnce_42
theorem dX12_passesOnce_160 : decode cX12_passesOnce 160 = .ok (.iload 4, 2) := wdX12_passesOnce_160
theorem dX12_passesOnce_162 : decode cX12_passesOnce 162 = .ok (.ifCond .eq 14, 3) := wdX12_passesOnce_162
theorem dX12_passesOnce_176 : decode cX12_passesOnce 176 = .ok (.iconst 0, 1) := wdX12_passesOnce_176
theorem dX12_passesOnce_177 : decode cX12_passesOnce 177 = .ok (.istore 5, 2) := wdX12_passesOnce_177
theorem dX12_passesOnce_179 : decode cX12_passesOnce 179 = .ok (.aload_n 0, 1) := wdX12_passesOnce_179
theorem dX12_passesOnce_180 : decode cX12_passesOnce 180 = .ok (.getfield 17, 3) := wdX12_passesOnce_180
theorem dX12_passesOnce_183 : decode cX12_passesOnce 183 = .ok (.iload 5, 2) := wdX12_passesOnce_183
theorem dX12_passesOnce_185 : decode cX12_passesOnce 185 = .ok (.invokestatic 105, 3) := wdX12_passesOnce_185
theorem dX12_passesOnce_188 : decode cX12_passesOnce 188 = .ok (.ifCond .eq 34, 3) := wdX12_passesOnce_188
theorem dX12_passesOnce_222 : decode cX12_passesOnce 222 = .ok (.return_, 1) := wdX12_passesOnce_222
theorem dX12_passesOnce_191 : decode cX12_passesOnce 191 = .ok (.aload_n 0, 1) := wdX12_passesOnce_191
theorem dX12_passesOnce_192 : decode cX12_passesOnce 192 = .ok (.iload_n 1, 1) := wdX12_passesOnce_192
theorem dX12_passesOnce_193 : decode cX12_passesOnce 193 = .ok (.iload 5, 2) := wdX12_passesOnce_193
theorem dX12_passesOnce_195 : decode cX12_passesOnce 195 = .ok (.invokevirtual 153, 3) := wdX12_passesOnce_195
theorem tk_X12_treats : Cond.code yX12_treats cX12_treats 6 (some .boolean) ∈ TB := wtk_X12_treats
theorem gc_X12_treats : GoodIn TB (cw yX12_treats cX12_treats 6 (some .boolean)) := goodIn_c2 tk_X12_treats
theorem tb_564 : Cond.methodLink "ToneLinesModel" 153 yX12_treats ∈ TB := wtb_169
theorem tb_565 : Cond.instanceMethod yX12_treats ∈ TB := wtb_170
theorem tb_566 : Cond.selects "ToneLinesModel" yX12_treats yX12_treats ∈ TB := wtb_171
theorem gv_X12_153 : GoodIn TB (wsV RX12 153 RX12 yX12_treats (cw yX12_treats cX12_treats 6 (some .boolean))) := goodIn_4 tb_564 tb_565 tb_566 tb_38 gc_X12_treats
theorem hv_X12_treats : yX12_treats.cls = RX12 ∧ yX12_treats.cls ≠ "java/lang/invoke/MethodHandle" ∧ yX12_treats.cls ≠ "java/lang/invoke/VarHandle" ∧ (parseMethodDescriptor yX12_treats.desc).map (fun d => d.parameters.length) = some 2 := whv_X12_treats
theorem dX12_passesOnce_198 : decode cX12_passesOnce 198 = .ok (.istore 6, 2) := wdX12_passesOnce_198
theorem dX12_passesOnce_200 : decode cX12_passesOnce 200 = .ok (.iload 4, 2) := wdX12_passesOnce_200
theorem dX12_passesOnce_202 : decode cX12_passesOnce 202 = .ok (.ifCond .eq 9, 3) := wdX12_passesOnce_202
theorem dX12_passesOnce_211 : decode cX12_passesOnce 211 = .ok (.iload 6, 2) := wdX12_passesOnce_211
theorem dX12_passesOnce_213 : decode cX12_passesOnce 213 = .ok (.ifCond .ne 6, 3) := wdX12_passesOnce_213
theorem dX12_passesOnce_219 : decode cX12_passesOnce 219 = .ok (.goto (-40), 3) := wdX12_passesOnce_219
theorem dX12_passesOnce_216 : decode cX12_passesOnce 216 = .ok (.iinc 5 1, 3) := wdX12_passesOnce_216
theorem dX12_passesOnce_45 : decode cX12_passesOnce 45 = .ok (.iconst 0, 1) := wdX12_passesOnce_45
theorem dX12_passesOnce_46 : decode cX12_passesOnce 46 = .ok (.istore 5, 2) := wdX12_passesOnce_46
theorem dX12_passesOnce_48 : decode cX12_passesOnce 48 = .ok (.iload 5, 2) := wdX12_passesOnce_48
theorem dX12_passesOnce_50 : decode cX12_passesOnce 50 = .ok (.aload_n 0, 1) := wdX12_passesOnce_50
theorem dX12_passesOnce_51 : decode cX12_passesOnce 51 = .ok (.getfield 17, 3) := wdX12_passesOnce_51
theorem dX12_passesOnce_54 : decode cX12_passesOnce 54 = .ok (.bipush 25, 2) := wdX12_passesOnce_54
theorem dX12_passesOnce_56 : decode cX12_passesOnce 56 = .ok (.iaload, 1) := wdX12_passesOnce_56
theorem dX12_passesOnce_57 : decode cX12_passesOnce 57 = .ok (.if_icmp .ge 102, 3) := wdX12_passesOnce_57
theorem dX12_passesOnce_159 : decode cX12_passesOnce 159 = .ok (.return_, 1) := wdX12_passesOnce_159
theorem dX12_passesOnce_60 : decode cX12_passesOnce 60 = .ok (.iload 4, 2) := wdX12_passesOnce_60
theorem dX12_passesOnce_62 : decode cX12_passesOnce 62 = .ok (.ifCond .eq 18, 3) := wdX12_passesOnce_62
theorem dX12_passesOnce_80 : decode cX12_passesOnce 80 = .ok (.iload 5, 2) := wdX12_passesOnce_80
theorem dX12_passesOnce_82 : decode cX12_passesOnce 82 = .ok (.istore 6, 2) := wdX12_passesOnce_82
theorem dX12_passesOnce_84 : decode cX12_passesOnce 84 = .ok (.iload_n 3, 1) := wdX12_passesOnce_84
theorem dX12_passesOnce_85 : decode cX12_passesOnce 85 = .ok (.ifCond .ne 14, 3) := wdX12_passesOnce_85
theorem dX12_passesOnce_99 : decode cX12_passesOnce 99 = .ok (.iload_n 3, 1) := wdX12_passesOnce_99
theorem dX12_passesOnce_100 : decode cX12_passesOnce 100 = .ok (.bipush 8, 2) := wdX12_passesOnce_100
theorem dX12_passesOnce_102 : decode cX12_passesOnce 102 = .ok (.if_icmp .ne 37, 3) := wdX12_passesOnce_102
theorem dX12_passesOnce_139 : decode cX12_passesOnce 139 = .ok (.aload_n 0, 1) := wdX12_passesOnce_139
theorem dX12_passesOnce_140 : decode cX12_passesOnce 140 = .ok (.iload 6, 2) := wdX12_passesOnce_140
theorem dX12_passesOnce_142 : decode cX12_passesOnce 142 = .ok (.aload_n 0, 1) := wdX12_passesOnce_142
theorem dX12_passesOnce_143 : decode cX12_passesOnce 143 = .ok (.getfield 20, 3) := wdX12_passesOnce_143
theorem dX12_passesOnce_146 : decode cX12_passesOnce 146 = .ok (.iload_n 2, 1) := wdX12_passesOnce_146
theorem dX12_passesOnce_147 : decode cX12_passesOnce 147 = .ok (.iconst 2, 1) := wdX12_passesOnce_147
theorem dX12_passesOnce_148 : decode cX12_passesOnce 148 = .ok (.iadd, 1) := wdX12_passesOnce_148
theorem dX12_passesOnce_149 : decode cX12_passesOnce 149 = .ok (.iaload, 1) := wdX12_passesOnce_149
theorem dX12_passesOnce_150 : decode cX12_passesOnce 150 = .ok (.invokevirtual 150, 3) := wdX12_passesOnce_150
theorem tk_X12_fills : Cond.code yX12_fills cX12_fills 5 none ∈ TB := wtk_X12_fills
theorem gc_X12_fills : GoodIn TB (cw yX12_fills cX12_fills 5 none) := goodIn_c2 tk_X12_fills
theorem tb_567 : Cond.methodLink "ToneLinesModel" 150 yX12_fills ∈ TB := wtb_166
theorem tb_568 : Cond.instanceMethod yX12_fills ∈ TB := wtb_167
theorem tb_569 : Cond.selects "ToneLinesModel" yX12_fills yX12_fills ∈ TB := wtb_168
theorem gv_X12_150 : GoodIn TB (wsV RX12 150 RX12 yX12_fills (cw yX12_fills cX12_fills 5 none)) := goodIn_4 tb_567 tb_568 tb_569 tb_38 gc_X12_fills
theorem hv_X12_fills : yX12_fills.cls = RX12 ∧ yX12_fills.cls ≠ "java/lang/invoke/MethodHandle" ∧ yX12_fills.cls ≠ "java/lang/invoke/VarHandle" ∧ (parseMethodDescriptor yX12_fills.desc).map (fun d => d.parameters.length) = some 2 := whv_X12_fills
theorem dX12_passesOnce_153 : decode cX12_passesOnce 153 = .ok (.iinc 5 1, 3) := wdX12_passesOnce_153
theorem dX12_passesOnce_156 : decode cX12_passesOnce 156 = .ok (.goto (-108), 3) := wdX12_passesOnce_156
theorem dX12_passesOnce_105 : decode cX12_passesOnce 105 = .ok (.aload_n 0, 1) := wdX12_passesOnce_105
theorem dX12_passesOnce_106 : decode cX12_passesOnce 106 = .ok (.iload 6, 2) := wdX12_passesOnce_106
theorem dX12_passesOnce_108 : decode cX12_passesOnce 108 = .ok (.aload_n 0, 1) := wdX12_passesOnce_108
theorem dX12_passesOnce_109 : decode cX12_passesOnce 109 = .ok (.getfield 20, 3) := wdX12_passesOnce_109
theorem dX12_passesOnce_112 : decode cX12_passesOnce 112 = .ok (.iload_n 2, 1) := wdX12_passesOnce_112
theorem dX12_passesOnce_113 : decode cX12_passesOnce 113 = .ok (.iconst 3, 1) := wdX12_passesOnce_113
theorem dX12_passesOnce_114 : decode cX12_passesOnce 114 = .ok (.iadd, 1) := wdX12_passesOnce_114
theorem dX12_passesOnce_115 : decode cX12_passesOnce 115 = .ok (.iaload, 1) := wdX12_passesOnce_115
theorem dX12_passesOnce_116 : decode cX12_passesOnce 116 = .ok (.aload_n 0, 1) := wdX12_passesOnce_116
theorem dX12_passesOnce_117 : decode cX12_passesOnce 117 = .ok (.getfield 20, 3) := wdX12_passesOnce_117
theorem dX12_passesOnce_120 : decode cX12_passesOnce 120 = .ok (.iload_n 2, 1) := wdX12_passesOnce_120
theorem dX12_passesOnce_121 : decode cX12_passesOnce 121 = .ok (.iconst 4, 1) := wdX12_passesOnce_121
theorem dX12_passesOnce_122 : decode cX12_passesOnce 122 = .ok (.iadd, 1) := wdX12_passesOnce_122
theorem dX12_passesOnce_123 : decode cX12_passesOnce 123 = .ok (.iaload, 1) := wdX12_passesOnce_123
theorem dX12_passesOnce_124 : decode cX12_passesOnce 124 = .ok (.iconst 1, 1) := wdX12_passesOnce_124
theorem dX12_passesOnce_125 : decode cX12_passesOnce 125 = .ok (.if_icmp .ne 7, 3) := wdX12_passesOnce_125
theorem dX12_passesOnce_132 : decode cX12_passesOnce 132 = .ok (.iconst 0, 1) := wdX12_passesOnce_132
theorem dX12_passesOnce_133 : decode cX12_passesOnce 133 = .ok (.invokevirtual 146, 3) := wdX12_passesOnce_133
theorem tk_X12_flattens : Cond.code yX12_flattens cX12_flattens 6 none ∈ TB := wtk_X12_flattens
theorem gc_X12_flattens : GoodIn TB (cw yX12_flattens cX12_flattens 6 none) := goodIn_c2 tk_X12_flattens
theorem tb_570 : Cond.methodLink "ToneLinesModel" 146 yX12_flattens ∈ TB := wtb_163
theorem tb_571 : Cond.instanceMethod yX12_flattens ∈ TB := wtb_164
theorem tb_572 : Cond.selects "ToneLinesModel" yX12_flattens yX12_flattens ∈ TB := wtb_165
theorem gv_X12_146 : GoodIn TB (wsV RX12 146 RX12 yX12_flattens (cw yX12_flattens cX12_flattens 6 none)) := goodIn_4 tb_570 tb_571 tb_572 tb_38 gc_X12_flattens
theorem hv_X12_flattens : yX12_flattens.cls = RX12 ∧ yX12_flattens.cls ≠ "java/lang/invoke/MethodHandle" ∧ yX12_flattens.cls ≠ "java/lang/invoke/VarHandle" ∧ (parseMethodDescriptor yX12_flattens.desc).map (fun d => d.parameters.length) = some 3 := whv_X12_flattens
theorem dX12_passesOnce_136 : decode cX12_passesOnce 136 = .ok (.goto 17, 3) := wdX12_passesOnce_136
theorem dX12_passesOnce_128 : decode cX12_passesOnce 128 = .ok (.iconst 1, 1) := wdX12_passesOnce_128
theorem dX12_passesOnce_129 : decode cX12_passesOnce 129 = .ok (.goto 4, 3) := wdX12_passesOnce_129
theorem dX12_passesOnce_88 : decode cX12_passesOnce 88 = .ok (.aload_n 0, 1) := wdX12_passesOnce_88
theorem dX12_passesOnce_89 : decode cX12_passesOnce 89 = .ok (.iload 6, 2) := wdX12_passesOnce_89
theorem dX12_passesOnce_91 : decode cX12_passesOnce 91 = .ok (.iload 4, 2) := wdX12_passesOnce_91
theorem dX12_passesOnce_93 : decode cX12_passesOnce 93 = .ok (.invokevirtual 143, 3) := wdX12_passesOnce_93
theorem tk_X12_links : Cond.code yX12_links cX12_links 5 none ∈ TB := wtk_X12_links
theorem gc_X12_links : GoodIn TB (cw yX12_links cX12_links 5 none) := goodIn_c2 tk_X12_links
theorem tb_573 : Cond.methodLink "ToneLinesModel" 143 yX12_links ∈ TB := wtb_156
theorem tb_574 : Cond.instanceMethod yX12_links ∈ TB := wtb_157
theorem tb_575 : Cond.selects "ToneLinesModel" yX12_links yX12_links ∈ TB := wtb_158
theorem gv_X12_143 : GoodIn TB (wsV RX12 143 RX12 yX12_links (cw yX12_links cX12_links 5 none)) := goodIn_4 tb_573 tb_574 tb_575 tb_38 gc_X12_links
theorem hv_X12_links : yX12_links.cls = RX12 ∧ yX12_links.cls ≠ "java/lang/invoke/MethodHandle" ∧ yX12_links.cls ≠ "java/lang/invoke/VarHandle" ∧ (parseMethodDescriptor yX12_links.desc).map (fun d => d.parameters.length) = some 2 := whv_X12_links
theorem dX12_passesOnce_96 : decode cX12_passesOnce 96 = .ok (.goto 57, 3) := wdX12_passesOnce_96
theorem dX12_passesOnce_19 : decode cX12_passesOnce 19 = .ok (.aload_n 0, 1) := wdX12_passesOnce_19
theorem dX12_passesOnce_20 : decode cX12_passesOnce 20 = .ok (.getfield 20, 3) := wdX12_passesOnce_20
theorem dX12_passesOnce_23 : decode cX12_passesOnce 23 = .ok (.iload_n 2, 1) := wdX12_passesOnce_23
theorem dX12_passesOnce_24 : decode cX12_passesOnce 24 = .ok (.iconst 4, 1) := wdX12_passesOnce_24
theorem dX12_passesOnce_25 : decode cX12_passesOnce 25 = .ok (.iadd, 1) := wdX12_passesOnce_25
theorem dX12_passesOnce_26 : decode cX12_passesOnce 26 = .ok (.iaload, 1) := wdX12_passesOnce_26
theorem dX12_passesOnce_27 : decode cX12_passesOnce 27 = .ok (.iconst 1, 1) := wdX12_passesOnce_27
theorem dX12_passesOnce_28 : decode cX12_passesOnce 28 = .ok (.if_icmp .ne 7, 3) := wdX12_passesOnce_28
theorem dX12_passesOnce_31 : decode cX12_passesOnce 31 = .ok (.iconst 1, 1) := wdX12_passesOnce_31
theorem dX12_passesOnce_32 : decode cX12_passesOnce 32 = .ok (.goto 4, 3) := wdX12_passesOnce_32
theorem dX12_passesOnce_165 : decode cX12_passesOnce 165 = .ok (.aload_n 0, 1) := wdX12_passesOnce_165
theorem dX12_passesOnce_166 : decode cX12_passesOnce 166 = .ok (.getfield 17, 3) := wdX12_passesOnce_166
theorem dX12_passesOnce_169 : decode cX12_passesOnce 169 = .ok (.iconst 0, 1) := wdX12_passesOnce_169
theorem dX12_passesOnce_170 : decode cX12_passesOnce 170 = .ok (.iaload, 1) := wdX12_passesOnce_170
theorem dX12_passesOnce_171 : decode cX12_passesOnce 171 = .ok (.iconst 1, 1) := wdX12_passesOnce_171
theorem dX12_passesOnce_172 : decode cX12_passesOnce 172 = .ok (.isub, 1) := wdX12_passesOnce_172
theorem dX12_passesOnce_173 : decode cX12_passesOnce 173 = .ok (.goto 4, 3) := wdX12_passesOnce_173
theorem dX12_passesOnce_205 : decode cX12_passesOnce 205 = .ok (.iinc 5 (-1), 3) := wdX12_passesOnce_205
theorem dX12_passesOnce_208 : decode cX12_passesOnce 208 = .ok (.goto 11, 3) := wdX12_passesOnce_208
theorem dX12_passesOnce_65 : decode cX12_passesOnce 65 = .ok (.aload_n 0, 1) := wdX12_passesOnce_65
theorem dX12_passesOnce_66 : decode cX12_passesOnce 66 = .ok (.getfield 17, 3) := wdX12_passesOnce_66
theorem dX12_passesOnce_69 : decode cX12_passesOnce 69 = .ok (.bipush 25, 2) := wdX12_passesOnce_69
theorem dX12_passesOnce_71 : decode cX12_passesOnce 71 = .ok (.iaload, 1) := wdX12_passesOnce_71
theorem dX12_passesOnce_72 : decode cX12_passesOnce 72 = .ok (.iconst 1, 1) := wdX12_passesOnce_72
theorem dX12_passesOnce_73 : decode cX12_passesOnce 73 = .ok (.isub, 1) := wdX12_passesOnce_73
theorem dX12_passesOnce_74 : decode cX12_passesOnce 74 = .ok (.iload 5, 2) := wdX12_passesOnce_74
theorem dX12_passesOnce_76 : decode cX12_passesOnce 76 = .ok (.isub, 1) := wdX12_passesOnce_76
theorem dX12_passesOnce_77 : decode cX12_passesOnce 77 = .ok (.goto 5, 3) := wdX12_passesOnce_77
set_option maxHeartbeats 4000000 in
set_option maxRecDepth 4000 in
theorem q_X12_passesOnce {l : Launch} {D : va_G} {B : Nat} {cy : Nat → ClassId} {M : Mem} {x : Int} (hx : 0 ≤ x ∧ x ≤ 7) (hI : IvR M) : Cv l D B cy yX12_passesOnce cX12_passesOnce 7 6 140 [.ref (B + 146), .int (zI x)] M (fun M1 => IvR M1 ∧ Fr (fun b9 k9 => (b9 = 146 ∧ k9 = 3) ∨ b9 = 148) M1 M) := by
  refine s_anyQ (by decide) (Nat.le_of_ble_eq_true rfl) ?_
  intro p e s m args below meth c ls Q F hr hlocks hQ w hl
  have F : CallFix p m c cX12_passesOnce 7 s args TB RX12 := F
  have hx := F.1
  have hb := F.2.1
  have hl : lv_has ls 7 [(0, .ref (B + 146)), (1, .int (zI x))] := hl
  have hF : Fr (fun b9 k9 => (b9 = 146 ∧ k9 = 3) ∨ b9 = 148) M M := Fr.rf
  refine lv_bipush (v := zI 8) hx hb dX12_passesOnce_0 (by decide) ?_
  refine lv_iload_n hx hb dX12_passesOnce_2 rfl (lv_at hl 1 rfl) ?_
  refine z_imul (z := (8 * x)) hx hb dX12_passesOnce_3 (by omega) ?_
  refine lv_istore_n (lv' := [(2, .int (zI (8 * x))), (0, .ref (B + 146)), (1, .int (zI x))]) hx hb dX12_passesOnce_4 rfl hl (by decide) rfl (fun ls hl => ?_)
  refine lv_aload_n hx hb dX12_passesOnce_5 rfl (lv_at hl 1 rfl) ?_
  refine f_12_4 F w (a := 146) rfl tb_532 dX12_passesOnce_6 ?_
  refine lv_iload_n hx hb dX12_passesOnce_9 rfl (lv_at hl 0 rfl) ?_
  refine g_iald F w (a := 149) rfl (j := (Int.toNat (8 * x))) (ix_z (by omega) (by omega)) (by omega) dX12_passesOnce_10 ?_
  obtain ⟨z1, bz1, ez1⟩ := IvR.ld (k := (Int.toNat (8 * x))) hI (show ivr 149 (Int.toNat (8 * x)) = ((-99), 300) from rfl) (show 146 ≤ 149 ∧ 149 < 159 by decide)
  refine r_val ez1 ?_
  refine lv_istore_n (lv' := [(3, .int (zI z1)), (2, .int (zI (8 * x))), (0, .ref (B + 146)), (1, .int (zI x))]) hx hb dX12_passesOnce_11 rfl hl (by decide) rfl (fun ls hl => ?_)
  refine lv_iload_n hx hb dX12_passesOnce_12 rfl (lv_at hl 0 rfl) ?_
  refine k_Si F w (As := [.int (zI z1)]) (rest := []) (q_X12_hasSide (x := z1) ⟨by omega, by omega⟩  hI) gs_X12_137 hs_X12_hasSide ⟨(Nat.le_of_ble_eq_true rfl), (Nat.le_of_ble_eq_true rfl)⟩ hl.1 rfl (Nat.le_of_ble_eq_true rfl) ⟨Nat.zero_le _, Nat.zero_le _⟩ dX12_passesOnce_13 (fun r2 N3 H locs hp w => ?_)
  obtain ⟨z4, rfl, bz4, xz4, hMN3⟩ := hp
  rw [hMN3] at w
  refine z_if_eq (tgt := 35) hx hb (by omega) dX12_passesOnce_16 (by decide) (fun c5 => ?_) (fun c5 => ?_)
  · refine lv_iconst (v := zI 0) hx hb dX12_passesOnce_35 rfl ?_
    refine lv_istore (lv' := [(4, .int (zI 0)), (3, .int (zI z1)), (2, .int (zI (8 * x))), (0, .ref (B + 146)), (1, .int (zI x))]) hx hb dX12_passesOnce_36 hl (by decide) rfl (fun ls hl => ?_)
    refine lv_iload_n hx hb dX12_passesOnce_38 rfl (lv_at hl 1 rfl) ?_
    refine k_Si F w (As := [.int (zI z1)]) (rest := []) (q_X12_isBySyllables (x := z1) ⟨by omega, by omega⟩  hI) gs_X12_140 hs_X12_isBySyllables ⟨(Nat.le_of_ble_eq_true rfl), (Nat.le_of_ble_eq_true rfl)⟩ hl.1 rfl (Nat.le_of_ble_eq_true rfl) ⟨Nat.zero_le _, Nat.zero_le _⟩ dX12_passesOnce_39 (fun r6 N7 H locs hp w => ?_)
    obtain ⟨z8, rfl, bz8, xz8, hMN7⟩ := hp
    rw [hMN7] at w
    refine z_if_eq (tgt := 160) hx hb (by omega) dX12_passesOnce_42 (by decide) (fun c9 => ?_) (fun c9 => ?_)
    · refine lv_iload hx hb dX12_passesOnce_160 (lv_at hl 0 rfl) ?_
      refine z_if_eq (tgt := 176) hx hb (by omega) dX12_passesOnce_162 (by decide) (fun c10 => ?_) (fun c10 => False.elim (by omega))
      refine lv_iconst (v := zI 0) hx hb dX12_passesOnce_176 rfl ?_
      refine lv_istore (lv' := [(5, .int (zI 0)), (4, .int (zI 0)), (3, .int (zI z1)), (2, .int (zI (8 * x))), (0, .ref (B + 146)), (1, .int (zI x))]) hx hb dX12_passesOnce_177 hl (by decide) rfl (fun ls hl => ?_)
      obtain ⟨z11, bz11, ez11⟩ := IvR.ld (k := 0) hI (show ivr 148 0 = (0, 12) from rfl) (show 146 ≤ 148 ∧ 148 < 159 by decide)
      have lp179 : ∀ (f : Nat) (v5_179 : Int) (g148_0_179 : Int) (NL179 : Mem), (0 ≤ v5_179 ∧ v5_179 ≤ 12) → (0 ≤ g148_0_179 ∧ g148_0_179 ≤ 12) → NL179.1 148 0 = zI g148_0_179 → IvR NL179 → Fr (fun b9 k9 => (b9 = 146 ∧ k9 = 3) ∨ b9 = 148) NL179 M → (Int.toNat (g148_0_179 - v5_179) < f) → ∀ (H : Heap) (locs : List Loc) (ls : Array Slot), Wd D B cy s s.heap NL179 H locs → lv_has ls 7 [(5, .int (zI v5_179)), (4, .int (zI 0)), (3, .int (zI z1)), (2, .int (zI (8 * x))), (0, .ref (B + 146)), (1, .int (zI x))] → W p l e (rmm 6 140) s m args below meth c H locs 0 0 Q (F0 m 179 ls []) := by
        intro f
        induction f with
        | zero => intros; omega
        | succ f ih179 =>
          intro v5_179 g148_0_179 NL179 iv5_179 ig148_0_179 eg148_0_179 hIL179 hFL179 hf179 H locs ls w hl
          refine lv_aload_n hx hb dX12_passesOnce_179 rfl (lv_at hl 4 rfl) ?_
          refine f_12_2 F w (a := 146) rfl tb_45 dX12_passesOnce_180 ?_
          refine lv_iload hx hb dX12_passesOnce_183 (lv_at hl 0 rfl) ?_
          refine k_Si F w (As := [.ref (B + 148), .int (zI v5_179)]) (rest := []) (q_X12_isTone_148 (t := v5_179) ⟨by omega, by omega⟩ (nn := g148_0_179) (eg148_0_179) ⟨by omega, by omega⟩  hIL179) gs_X12_105 hs_X12_isTone ⟨(Nat.le_of_ble_eq_true rfl), (Nat.le_of_ble_eq_true rfl)⟩ hl.1 rfl (Nat.le_of_ble_eq_true rfl) ⟨Nat.zero_le _, Nat.zero_le _⟩ dX12_passesOnce_185 (fun r12 N13 H locs hp w => ?_)
          obtain ⟨z14, rfl, bz14, xz14, hMN13⟩ := hp
          rw [hMN13] at w
          refine z_if_eq (tgt := 222) hx hb (by omega) dX12_passesOnce_188 (by decide) (fun c15 => ?_) (fun c15 => ?_)
          · rw [hQ]
            exact e_v F w hr hlocks ⟨hIL179, hFL179⟩ dX12_passesOnce_222
          · refine lv_aload_n hx hb dX12_passesOnce_191 rfl (lv_at hl 4 rfl) ?_
            refine lv_iload_n hx hb dX12_passesOnce_192 rfl (lv_at hl 5 rfl) ?_
            refine lv_iload hx hb dX12_passesOnce_193 (lv_at hl 0 rfl) ?_
            refine k_Vi F w (As := [.int (zI x), .int (zI v5_179)]) (rest := []) (a := 146) (kd_lt (a := 146) (show kd 146 = (12, 0, 0) from rfl) (by decide)) (sh_12 rfl _ _) rfl (q_X12_treats (x := x) ⟨by omega, by omega⟩ (t := v5_179) ⟨by omega, by omega⟩ (nn := g148_0_179) (eg148_0_179) ⟨by omega, by omega⟩ (by omega) hIL179) gv_X12_153 hv_X12_treats ⟨(Nat.le_of_ble_eq_true rfl), (Nat.le_of_ble_eq_true rfl)⟩ hl.1 rfl (Nat.le_of_ble_eq_true rfl) ⟨Nat.zero_le _, Nat.zero_le _⟩ dX12_passesOnce_195 (fun r16 N17 H locs hp w => ?_)
            obtain ⟨z18, rfl, bz18, ⟨nz180, enz180, xz18⟩, hIN17, hFN17⟩ := hp
            have hGN17 := Fr.tr hFL179 hFN17 (S := (fun b9 k9 => (b9 = 146 ∧ k9 = 3) ∨ b9 = 148)) (fun b k h => by (try dsimp only at h ⊢); rcases h with ⟨rfl, rfl⟩ | rfl <;> first | decide | omega)
            refine lv_istore (lv' := [(6, .int (zI z18)), (5, .int (zI v5_179)), (4, .int (zI 0)), (3, .int (zI z1)), (2, .int (zI (8 * x))), (0, .ref (B + 146)), (1, .int (zI x))]) hx hb dX12_passesOnce_198 hl (by decide) rfl (fun ls hl => ?_)
            refine lv_iload hx hb dX12_passesOnce_200 (lv_at hl 2 rfl) ?_
            refine z_if_eq (tgt := 211) hx hb (by omega) dX12_passesOnce_202 (by decide) (fun c19 => ?_) (fun c19 => False.elim (by omega))
            refine lv_iload hx hb dX12_passesOnce_211 (lv_at hl 0 rfl) ?_
            refine z_if_ne (tgt := 219) hx hb (by omega) dX12_passesOnce_213 (by decide) (fun c20 => ?_) (fun c20 => ?_)
            · refine lv_goto (tgt := 179) hx hb dX12_passesOnce_219 (by decide) ?_
              exact ih179 v5_179 nz180 N17 (by omega) (by omega) (enz180)  hIN17 hGN17 (by omega) _ _ _ w (lv_sub hl [1, 2, 3, 4, 5, 6] rfl)
            · refine z_iinc (v := (v5_179 + 1)) (lv' := [(5, .int (zI (v5_179 + 1))), (6, .int (zI z18)), (4, .int (zI 0)), (3, .int (zI z1)), (2, .int (zI (8 * x))), (0, .ref (B + 146)), (1, .int (zI x))]) hx hb dX12_passesOnce_216 hl (k := 1) rfl (by omega) (by decide) rfl (fun ls hl => ?_)
              refine lv_goto (tgt := 179) hx hb dX12_passesOnce_219 (by decide) ?_
              exact ih179 (v5_179 + 1) nz180 N17 (by omega) (by omega) (enz180)  hIN17 hGN17 (by omega) _ _ _ w (lv_sub hl [0, 2, 3, 4, 5, 6] rfl)
      exact lp179 _ 0 z11 M (by omega) (by omega) (ez11) hI hF (Nat.lt_succ_self _) _ _ _ w (lv_sub hl [0, 1, 2, 3, 4, 5] rfl)
    · refine lv_iconst (v := zI 0) hx hb dX12_passesOnce_45 rfl ?_
      refine lv_istore (lv' := [(5, .int (zI 0)), (4, .int (zI 0)), (3, .int (zI z1)), (2, .int (zI (8 * x))), (0, .ref (B + 146)), (1, .int (zI x))]) hx hb dX12_passesOnce_46 hl (by decide) rfl (fun ls hl => ?_)
      have lp48 : ∀ (f : Nat) (v5_48 : Int)  (NL48 : Mem), (0 ≤ v5_48 ∧ v5_48 ≤ 12) → IvR NL48 → Fr (fun b9 k9 => (b9 = 146 ∧ k9 = 3) ∨ b9 = 148) NL48 M → (Int.toNat (12 - v5_48) < f) → ∀ (H : Heap) (locs : List Loc) (ls : Array Slot), Wd D B cy s s.heap NL48 H locs → lv_has ls 7 [(5, .int (zI v5_48)), (4, .int (zI 0)), (3, .int (zI z1)), (2, .int (zI (8 * x))), (0, .ref (B + 146)), (1, .int (zI x))] → W p l e (rmm 6 140) s m args below meth c H locs 0 0 Q (F0 m 48 ls []) := by
        intro f
        induction f with
        | zero => intros; omega
        | succ f ih48 =>
          intro v5_48  NL48 iv5_48 hIL48 hFL48 hf48 H locs ls w hl
          refine lv_iload hx hb dX12_passesOnce_48 (lv_at hl 0 rfl) ?_
          refine lv_aload_n hx hb dX12_passesOnce_50 rfl (lv_at hl 4 rfl) ?_
          refine f_12_2 F w (a := 146) rfl tb_45 dX12_passesOnce_51 ?_
          refine lv_bipush (v := zI 25) hx hb dX12_passesOnce_54 (by decide) ?_
          refine g_iald F w (a := 148) rfl (j := 25) ⟨by decide, by decide⟩ (by omega) dX12_passesOnce_56 ?_
          obtain ⟨z21, bz21, ez21⟩ := IvR.ld (k := 25) hIL48 (show ivr 148 25 = (0, 12) from rfl) (show 146 ≤ 148 ∧ 148 < 159 by decide)
          refine r_val ez21 ?_
          refine z_icmp_ge (tgt := 159) hx hb (by omega) (by omega) dX12_passesOnce_57 (by decide) (fun c22 => ?_) (fun c22 => ?_)
          · rw [hQ]
            exact e_v F w hr hlocks ⟨hIL48, hFL48⟩ dX12_passesOnce_159
          · refine lv_iload hx hb dX12_passesOnce_60 (lv_at hl 1 rfl) ?_
            refine z_if_eq (tgt := 80) hx hb (by omega) dX12_passesOnce_62 (by decide) (fun c23 => ?_) (fun c23 => False.elim (by omega))
            refine lv_iload hx hb dX12_passesOnce_80 (lv_at hl 0 rfl) ?_
            refine lv_istore (lv' := [(6, .int (zI v5_48)), (5, .int (zI v5_48)), (4, .int (zI 0)), (3, .int (zI z1)), (2, .int (zI (8 * x))), (0, .ref (B + 146)), (1, .int (zI x))]) hx hb dX12_passesOnce_82 hl (by decide) rfl (fun ls hl => ?_)
            refine lv_iload_n hx hb dX12_passesOnce_84 rfl (lv_at hl 3 rfl) ?_
            refine z_if_ne (tgt := 99) hx hb (by omega) dX12_passesOnce_85 (by decide) (fun c24 => ?_) (fun c24 => ?_)
            · refine lv_iload_n hx hb dX12_passesOnce_99 rfl (lv_at hl 3 rfl) ?_
              refine lv_bipush (v := zI 8) hx hb dX12_passesOnce_100 (by decide) ?_
              refine z_icmp_ne (tgt := 139) hx hb (by omega) (by omega) dX12_passesOnce_102 (by decide) (fun c25 => ?_) (fun c25 => ?_)
              · refine lv_aload_n hx hb dX12_passesOnce_139 rfl (lv_at hl 5 rfl) ?_
                refine lv_iload hx hb dX12_passesOnce_140 (lv_at hl 0 rfl) ?_
                refine lv_aload_n hx hb dX12_passesOnce_142 rfl (lv_at hl 5 rfl) ?_
                refine f_12_4 F w (a := 146) rfl tb_532 dX12_passesOnce_143 ?_
                refine lv_iload_n hx hb dX12_passesOnce_146 rfl (lv_at hl 4 rfl) ?_
                refine lv_iconst (v := zI 2) hx hb dX12_passesOnce_147 rfl ?_
                refine z_iadd (z := ((8 * x) + 2)) hx hb dX12_passesOnce_148 (by omega) ?_
                refine g_iald F w (a := 149) rfl (j := (Int.toNat ((8 * x) + 2))) (ix_z (by omega) (by omega)) (by omega) dX12_passesOnce_149 ?_
                obtain ⟨z26, bz26, ez26⟩ := IvR.ld (k := (Int.toNat ((8 * x) + 2))) hIL48 (show ivr 149 (Int.toNat ((8 * x) + 2)) = ((-99), 300) from rfl) (show 146 ≤ 149 ∧ 149 < 159 by decide)
                refine r_val ez26 ?_
                obtain ⟨z27, bz27, ez27⟩ := IvR.ld (k := 0) hIL48 (show ivr 148 0 = (0, 12) from rfl) (show 146 ≤ 148 ∧ 148 < 159 by decide)
                refine k_Vv F w (As := [.int (zI v5_48), .int (zI z26)]) (rest := []) (a := 146) (kd_lt (a := 146) (show kd 146 = (12, 0, 0) from rfl) (by decide)) (sh_12 rfl _ _) rfl (q_X12_fills (y := v5_48) ⟨by omega, by omega⟩ (x := z26) ⟨by omega, by omega⟩ (nn := z27) (ez27) ⟨by omega, by omega⟩  hIL48) gv_X12_150 hv_X12_fills ⟨(Nat.le_of_ble_eq_true rfl), (Nat.le_of_ble_eq_true rfl)⟩ hl.1 rfl (Nat.le_of_ble_eq_true rfl) ⟨Nat.zero_le _, Nat.zero_le _⟩ dX12_passesOnce_150 (fun N29 H locs hp w => ?_)
                obtain ⟨hIN29, hFN29⟩ := hp
                have hGN29 := Fr.tr hFL48 hFN29 (S := (fun b9 k9 => (b9 = 146 ∧ k9 = 3) ∨ b9 = 148)) (fun b k h => by (try dsimp only at h ⊢); rcases h with ⟨rfl, rfl⟩ | rfl <;> first | decide | omega)
                refine z_iinc (v := (v5_48 + 1)) (lv' := [(5, .int (zI (v5_48 + 1))), (6, .int (zI v5_48)), (4, .int (zI 0)), (3, .int (zI z1)), (2, .int (zI (8 * x))), (0, .ref (B + 146)), (1, .int (zI x))]) hx hb dX12_passesOnce_153 hl (k := 1) rfl (by omega) (by decide) rfl (fun ls hl => ?_)
                refine lv_goto (tgt := 48) hx hb dX12_passesOnce_156 (by decide) ?_
                exact ih48 (v5_48 + 1) N29 (by omega)    hIN29 hGN29 (by omega) _ _ _ w (lv_sub hl [0, 2, 3, 4, 5, 6] rfl)
              · refine lv_aload_n hx hb dX12_passesOnce_105 rfl (lv_at hl 5 rfl) ?_
                refine lv_iload hx hb dX12_passesOnce_106 (lv_at hl 0 rfl) ?_
                refine lv_aload_n hx hb dX12_passesOnce_108 rfl (lv_at hl 5 rfl) ?_
                refine f_12_4 F w (a := 146) rfl tb_532 dX12_passesOnce_109 ?_
                refine lv_iload_n hx hb dX12_passesOnce_112 rfl (lv_at hl 4 rfl) ?_
                refine lv_iconst (v := zI 3) hx hb dX12_passesOnce_113 rfl ?_
                refine z_iadd (z := ((8 * x) + 3)) hx hb dX12_passesOnce_114 (by omega) ?_
                refine g_iald F w (a := 149) rfl (j := (Int.toNat ((8 * x) + 3))) (ix_z (by omega) (by omega)) (by omega) dX12_passesOnce_115 ?_
                obtain ⟨z31, bz31, ez31⟩ := RK_ld hIL48 (r := x) (by omega) (((hFL48 149 _ (by first | decide | (dsimp only; first | done | decide | omega) | omega)).trans ez1).trans (congrArg zI (show z1 = 8 by omega)))
                refine r_val ez31 ?_
                refine lv_aload_n hx hb dX12_passesOnce_116 rfl (lv_at hl 5 rfl) ?_
                refine f_12_4 F w (a := 146) rfl tb_532 dX12_passesOnce_117 ?_
                refine lv_iload_n hx hb dX12_passesOnce_120 rfl (lv_at hl 4 rfl) ?_
                refine lv_iconst (v := zI 4) hx hb dX12_passesOnce_121 rfl ?_
                refine z_iadd (z := ((8 * x) + 4)) hx hb dX12_passesOnce_122 (by omega) ?_
                refine g_iald F w (a := 149) rfl (j := (Int.toNat ((8 * x) + 4))) (ix_z (by omega) (by omega)) (by omega) dX12_passesOnce_123 ?_
                obtain ⟨z32, bz32, ez32⟩ := IvR.ld (k := (Int.toNat ((8 * x) + 4))) hIL48 (show ivr 149 (Int.toNat ((8 * x) + 4)) = ((-99), 300) from rfl) (show 146 ≤ 149 ∧ 149 < 159 by decide)
                refine r_val ez32 ?_
                refine lv_iconst (v := zI 1) hx hb dX12_passesOnce_124 rfl ?_
                refine z_icmp_ne (tgt := 132) hx hb (by omega) (by omega) dX12_passesOnce_125 (by decide) (fun c33 => ?_) (fun c33 => ?_)
                · refine lv_iconst (v := zI 0) hx hb dX12_passesOnce_132 rfl ?_
                  refine k_Vv F w (As := [.int (zI v5_48), .int (zI z31), .int (zI 0)]) (rest := []) (a := 146) (kd_lt (a := 146) (show kd 146 = (12, 0, 0) from rfl) (by decide)) (sh_12 rfl _ _) rfl (q_X12_flattens (y := v5_48) ⟨by omega, by omega⟩ (x := z31) ⟨by omega, by omega⟩ (x1 := 0) ⟨by omega, by omega⟩  hIL48) gv_X12_146 hv_X12_flattens ⟨(Nat.le_of_ble_eq_true rfl), (Nat.le_of_ble_eq_true rfl)⟩ hl.1 rfl (Nat.le_of_ble_eq_true rfl) ⟨Nat.zero_le _, Nat.zero_le _⟩ dX12_passesOnce_133 (fun N35 H locs hp w => ?_)
                  obtain ⟨hIN35, hFN35⟩ := hp
                  have hGN35 := Fr.tr hFL48 hFN35 (S := (fun b9 k9 => (b9 = 146 ∧ k9 = 3) ∨ b9 = 148)) (fun b k h => by (try dsimp only at h ⊢); rcases h with ⟨rfl, rfl⟩ | ⟨rfl, q1, q2⟩ <;> first | decide | omega)
                  have kn37 : N35.1 148 25 = zI z21 := (hFN35 148 25 (by first | decide | (dsimp only; first | done | decide | omega) | omega)).trans (ez21)
                  refine lv_goto (tgt := 153) hx hb dX12_passesOnce_136 (by decide) ?_
                  refine z_iinc (v := (v5_48 + 1)) (lv' := [(5, .int (zI (v5_48 + 1))), (6, .int (zI v5_48)), (4, .int (zI 0)), (3, .int (zI z1)), (2, .int (zI (8 * x))), (0, .ref (B + 146)), (1, .int (zI x))]) hx hb dX12_passesOnce_153 hl (k := 1) rfl (by omega) (by decide) rfl (fun ls hl => ?_)
                  refine lv_goto (tgt := 48) hx hb dX12_passesOnce_156 (by decide) ?_
                  exact ih48 (v5_48 + 1) N35 (by omega)    hIN35 hGN35 (by omega) _ _ _ w (lv_sub hl [0, 2, 3, 4, 5, 6] rfl)
                · refine lv_iconst (v := zI 1) hx hb dX12_passesOnce_128 rfl ?_
                  refine lv_goto (tgt := 133) hx hb dX12_passesOnce_129 (by decide) ?_
                  refine k_Vv F w (As := [.int (zI v5_48), .int (zI z31), .int (zI 1)]) (rest := []) (a := 146) (kd_lt (a := 146) (show kd 146 = (12, 0, 0) from rfl) (by decide)) (sh_12 rfl _ _) rfl (q_X12_flattens (y := v5_48) ⟨by omega, by omega⟩ (x := z31) ⟨by omega, by omega⟩ (x1 := 1) ⟨by omega, by omega⟩  hIL48) gv_X12_146 hv_X12_flattens ⟨(Nat.le_of_ble_eq_true rfl), (Nat.le_of_ble_eq_true rfl)⟩ hl.1 rfl (Nat.le_of_ble_eq_true rfl) ⟨Nat.zero_le _, Nat.zero_le _⟩ dX12_passesOnce_133 (fun N39 H locs hp w => ?_)
                  obtain ⟨hIN39, hFN39⟩ := hp
                  have hGN39 := Fr.tr hFL48 hFN39 (S := (fun b9 k9 => (b9 = 146 ∧ k9 = 3) ∨ b9 = 148)) (fun b k h => by (try dsimp only at h ⊢); rcases h with ⟨rfl, rfl⟩ | ⟨rfl, q1, q2⟩ <;> first | decide | omega)
                  have kn41 : N39.1 148 25 = zI z21 := (hFN39 148 25 (by first | decide | (dsimp only; first | done | decide | omega) | omega)).trans (ez21)
                  refine lv_goto (tgt := 153) hx hb dX12_passesOnce_136 (by decide) ?_
                  refine z_iinc (v := (v5_48 + 1)) (lv' := [(5, .int (zI (v5_48 + 1))), (6, .int (zI v5_48)), (4, .int (zI 0)), (3, .int (zI z1)), (2, .int (zI (8 * x))), (0, .ref (B + 146)), (1, .int (zI x))]) hx hb dX12_passesOnce_153 hl (k := 1) rfl (by omega) (by decide) rfl (fun ls hl => ?_)
                  refine lv_goto (tgt := 48) hx hb dX12_passesOnce_156 (by decide) ?_
                  exact ih48 (v5_48 + 1) N39 (by omega)    hIN39 hGN39 (by omega) _ _ _ w (lv_sub hl [0, 2, 3, 4, 5, 6] rfl)
            · refine lv_aload_n hx hb dX12_passesOnce_88 rfl (lv_at hl 5 rfl) ?_
              refine lv_iload hx hb dX12_passesOnce_89 (lv_at hl 0 rfl) ?_
              refine lv_iload hx hb dX12_passesOnce_91 (lv_at hl 2 rfl) ?_
              refine k_Vv F w (As := [.int (zI v5_48), .int (zI 0)]) (rest := []) (a := 146) (kd_lt (a := 146) (show kd 146 = (12, 0, 0) from rfl) (by decide)) (sh_12 rfl _ _) rfl (q_X12_links (y := v5_48) ⟨by omega, by omega⟩ (x := 0) ⟨by omega, by omega⟩  hIL48) gv_X12_143 hv_X12_links ⟨(Nat.le_of_ble_eq_true rfl), (Nat.le_of_ble_eq_true rfl)⟩ hl.1 rfl (Nat.le_of_ble_eq_true rfl) ⟨Nat.zero_le _, Nat.zero_le _⟩ dX12_passesOnce_93 (fun N43 H locs hp w => ?_)
              obtain ⟨hIN43, hFN43⟩ := hp
              have hGN43 := Fr.tr hFL48 hFN43 (S := (fun b9 k9 => (b9 = 146 ∧ k9 = 3) ∨ b9 = 148)) (fun b k h => by (try dsimp only at h ⊢); rcases h with ⟨rfl, rfl⟩ | ⟨rfl, q1, q2⟩ <;> first | decide | omega)
              have kn45 : N43.1 148 25 = zI z21 := (hFN43 148 25 (by first | decide | (dsimp only; first | done | decide | omega) | omega)).trans (ez21)
              refine lv_goto (tgt := 153) hx hb dX12_passesOnce_96 (by decide) ?_
              refine z_iinc (v := (v5_48 + 1)) (lv' := [(5, .int (zI (v5_48 + 1))), (6, .int (zI v5_48)), (4, .int (zI 0)), (3, .int (zI z1)), (2, .int (zI (8 * x))), (0, .ref (B + 146)), (1, .int (zI x))]) hx hb dX12_passesOnce_153 hl (k := 1) rfl (by omega) (by decide) rfl (fun ls hl => ?_)
              refine lv_goto (tgt := 48) hx hb dX12_passesOnce_156 (by decide) ?_
              exact ih48 (v5_48 + 1) N43 (by omega)    hIN43 hGN43 (by omega) _ _ _ w (lv_sub hl [0, 2, 3, 4, 5, 6] rfl)
      exact lp48 _ 0 M (by omega) hI hF (Nat.lt_succ_self _) _ _ _ w (lv_sub hl [0, 1, 2, 3, 4, 5] rfl)
  · refine lv_aload_n hx hb dX12_passesOnce_19 rfl (lv_at hl 2 rfl) ?_
    refine f_12_4 F w (a := 146) rfl tb_532 dX12_passesOnce_20 ?_
    refine lv_iload_n hx hb dX12_passesOnce_23 rfl (lv_at hl 1 rfl) ?_
    refine lv_iconst (v := zI 4) hx hb dX12_passesOnce_24 rfl ?_
    refine z_iadd (z := ((8 * x) + 4)) hx hb dX12_passesOnce_25 (by omega) ?_
    refine g_iald F w (a := 149) rfl (j := (Int.toNat ((8 * x) + 4))) (ix_z (by omega) (by omega)) (by omega) dX12_passesOnce_26 ?_
    obtain ⟨z46, bz46, ez46⟩ := IvR.ld (k := (Int.toNat ((8 * x) + 4))) hI (show ivr 149 (Int.toNat ((8 * x) + 4)) = ((-99), 300) from rfl) (show 146 ≤ 149 ∧ 149 < 159 by decide)
    refine r_val ez46 ?_
    refine lv_iconst (v := zI 1) hx hb dX12_passesOnce_27 rfl ?_
    refine z_icmp_ne (tgt := 35) hx hb (by omega) (by omega) dX12_passesOnce_28 (by decide) (fun c47 => ?_) (fun c47 => ?_)
    · refine lv_iconst (v := zI 0) hx hb dX12_passesOnce_35 rfl ?_
      refine lv_istore (lv' := [(4, .int (zI 0)), (3, .int (zI z1)), (2, .int (zI (8 * x))), (0, .ref (B + 146)), (1, .int (zI x))]) hx hb dX12_passesOnce_36 hl (by decide) rfl (fun ls hl => ?_)
      refine lv_iload_n hx hb dX12_passesOnce_38 rfl (lv_at hl 1 rfl) ?_
      refine k_Si F w (As := [.int (zI z1)]) (rest := []) (q_X12_isBySyllables (x := z1) ⟨by omega, by omega⟩  hI) gs_X12_140 hs_X12_isBySyllables ⟨(Nat.le_of_ble_eq_true rfl), (Nat.le_of_ble_eq_true rfl)⟩ hl.1 rfl (Nat.le_of_ble_eq_true rfl) ⟨Nat.zero_le _, Nat.zero_le _⟩ dX12_passesOnce_39 (fun r48 N49 H locs hp w => ?_)
      obtain ⟨z50, rfl, bz50, xz50, hMN49⟩ := hp
      rw [hMN49] at w
      refine z_if_eq (tgt := 160) hx hb (by omega) dX12_passesOnce_42 (by decide) (fun c51 => ?_) (fun c51 => ?_)
      · refine lv_iload hx hb dX12_passesOnce_160 (lv_at hl 0 rfl) ?_
        refine z_if_eq (tgt := 176) hx hb (by omega) dX12_passesOnce_162 (by decide) (fun c52 => ?_) (fun c52 => False.elim (by omega))
        refine lv_iconst (v := zI 0) hx hb dX12_passesOnce_176 rfl ?_
        refine lv_istore (lv' := [(5, .int (zI 0)), (4, .int (zI 0)), (3, .int (zI z1)), (2, .int (zI (8 * x))), (0, .ref (B + 146)), (1, .int (zI x))]) hx hb dX12_passesOnce_177 hl (by decide) rfl (fun ls hl => ?_)
        obtain ⟨z53, bz53, ez53⟩ := IvR.ld (k := 0) hI (show ivr 148 0 = (0, 12) from rfl) (show 146 ≤ 148 ∧ 148 < 159 by decide)
        have lp179 : ∀ (f : Nat) (v5_179 : Int) (g148_0_179 : Int) (NL179 : Mem), (0 ≤ v5_179 ∧ v5_179 ≤ 12) → (0 ≤ g148_0_179 ∧ g148_0_179 ≤ 12) → NL179.1 148 0 = zI g148_0_179 → IvR NL179 → Fr (fun b9 k9 => (b9 = 146 ∧ k9 = 3) ∨ b9 = 148) NL179 M → (Int.toNat (g148_0_179 - v5_179) < f) → ∀ (H : Heap) (locs : List Loc) (ls : Array Slot), Wd D B cy s s.heap NL179 H locs → lv_has ls 7 [(5, .int (zI v5_179)), (4, .int (zI 0)), (3, .int (zI z1)), (2, .int (zI (8 * x))), (0, .ref (B + 146)), (1, .int (zI x))] → W p l e (rmm 6 140) s m args below meth c H locs 0 0 Q (F0 m 179 ls []) := by
          intro f
          induction f with
          | zero => intros; omega
          | succ f ih179 =>
            intro v5_179 g148_0_179 NL179 iv5_179 ig148_0_179 eg148_0_179 hIL179 hFL179 hf179 H locs ls w hl
            refine lv_aload_n hx hb dX12_passesOnce_179 rfl (lv_at hl 4 rfl) ?_
            refine f_12_2 F w (a := 146) rfl tb_45 dX12_passesOnce_180 ?_
            refine lv_iload hx hb dX12_passesOnce_183 (lv_at hl 0 rfl) ?_
            refine k_Si F w (As := [.ref (B + 148), .int (zI v5_179)]) (rest := []) (q_X12_isTone_148 (t := v5_179) ⟨by omega, by omega⟩ (nn := g148_0_179) (eg148_0_179) ⟨by omega, by omega⟩  hIL179) gs_X12_105 hs_X12_isTone ⟨(Nat.le_of_ble_eq_true rfl), (Nat.le_of_ble_eq_true rfl)⟩ hl.1 rfl (Nat.le_of_ble_eq_true rfl) ⟨Nat.zero_le _, Nat.zero_le _⟩ dX12_passesOnce_185 (fun r54 N55 H locs hp w => ?_)
            obtain ⟨z56, rfl, bz56, xz56, hMN55⟩ := hp
            rw [hMN55] at w
            refine z_if_eq (tgt := 222) hx hb (by omega) dX12_passesOnce_188 (by decide) (fun c57 => ?_) (fun c57 => ?_)
            · rw [hQ]
              exact e_v F w hr hlocks ⟨hIL179, hFL179⟩ dX12_passesOnce_222
            · refine lv_aload_n hx hb dX12_passesOnce_191 rfl (lv_at hl 4 rfl) ?_
              refine lv_iload_n hx hb dX12_passesOnce_192 rfl (lv_at hl 5 rfl) ?_
              refine lv_iload hx hb dX12_passesOnce_193 (lv_at hl 0 rfl) ?_
              refine k_Vi F w (As := [.int (zI x), .int (zI v5_179)]) (rest := []) (a := 146) (kd_lt (a := 146) (show kd 146 = (12, 0, 0) from rfl) (by decide)) (sh_12 rfl _ _) rfl (q_X12_treats (x := x) ⟨by omega, by omega⟩ (t := v5_179) ⟨by omega, by omega⟩ (nn := g148_0_179) (eg148_0_179) ⟨by omega, by omega⟩ (by omega) hIL179) gv_X12_153 hv_X12_treats ⟨(Nat.le_of_ble_eq_true rfl), (Nat.le_of_ble_eq_true rfl)⟩ hl.1 rfl (Nat.le_of_ble_eq_true rfl) ⟨Nat.zero_le _, Nat.zero_le _⟩ dX12_passesOnce_195 (fun r58 N59 H locs hp w => ?_)
              obtain ⟨z60, rfl, bz60, ⟨nz600, enz600, xz60⟩, hIN59, hFN59⟩ := hp
              have hGN59 := Fr.tr hFL179 hFN59 (S := (fun b9 k9 => (b9 = 146 ∧ k9 = 3) ∨ b9 = 148)) (fun b k h => by (try dsimp only at h ⊢); rcases h with ⟨rfl, rfl⟩ | rfl <;> first | decide | omega)
              refine lv_istore (lv' := [(6, .int (zI z60)), (5, .int (zI v5_179)), (4, .int (zI 0)), (3, .int (zI z1)), (2, .int (zI (8 * x))), (0, .ref (B + 146)), (1, .int (zI x))]) hx hb dX12_passesOnce_198 hl (by decide) rfl (fun ls hl => ?_)
              refine lv_iload hx hb dX12_passesOnce_200 (lv_at hl 2 rfl) ?_
              refine z_if_eq (tgt := 211) hx hb (by omega) dX12_passesOnce_202 (by decide) (fun c61 => ?_) (fun c61 => False.elim (by omega))
              refine lv_iload hx hb dX12_passesOnce_211 (lv_at hl 0 rfl) ?_
              refine z_if_ne (tgt := 219) hx hb (by omega) dX12_passesOnce_213 (by decide) (fun c62 => ?_) (fun c62 => ?_)
              · refine lv_goto (tgt := 179) hx hb dX12_passesOnce_219 (by decide) ?_
                exact ih179 v5_179 nz600 N59 (by omega) (by omega) (enz600)  hIN59 hGN59 (by omega) _ _ _ w (lv_sub hl [1, 2, 3, 4, 5, 6] rfl)
              · refine z_iinc (v := (v5_179 + 1)) (lv' := [(5, .int (zI (v5_179 + 1))), (6, .int (zI z60)), (4, .int (zI 0)), (3, .int (zI z1)), (2, .int (zI (8 * x))), (0, .ref (B + 146)), (1, .int (zI x))]) hx hb dX12_passesOnce_216 hl (k := 1) rfl (by omega) (by decide) rfl (fun ls hl => ?_)
                refine lv_goto (tgt := 179) hx hb dX12_passesOnce_219 (by decide) ?_
                exact ih179 (v5_179 + 1) nz600 N59 (by omega) (by omega) (enz600)  hIN59 hGN59 (by omega) _ _ _ w (lv_sub hl [0, 2, 3, 4, 5, 6] rfl)
        exact lp179 _ 0 z53 M (by omega) (by omega) (ez53) hI hF (Nat.lt_succ_self _) _ _ _ w (lv_sub hl [0, 1, 2, 3, 4, 5] rfl)
      · refine lv_iconst (v := zI 0) hx hb dX12_passesOnce_45 rfl ?_
        refine lv_istore (lv' := [(5, .int (zI 0)), (4, .int (zI 0)), (3, .int (zI z1)), (2, .int (zI (8 * x))), (0, .ref (B + 146)), (1, .int (zI x))]) hx hb dX12_passesOnce_46 hl (by decide) rfl (fun ls hl => ?_)
        have lp48 : ∀ (f : Nat) (v5_48 : Int)  (NL48 : Mem), (0 ≤ v5_48 ∧ v5_48 ≤ 12) → IvR NL48 → Fr (fun b9 k9 => (b9 = 146 ∧ k9 = 3) ∨ b9 = 148) NL48 M → (Int.toNat (12 - v5_48) < f) → ∀ (H : Heap) (locs : List Loc) (ls : Array Slot), Wd D B cy s s.heap NL48 H locs → lv_has ls 7 [(5, .int (zI v5_48)), (4, .int (zI 0)), (3, .int (zI z1)), (2, .int (zI (8 * x))), (0, .ref (B + 146)), (1, .int (zI x))] → W p l e (rmm 6 140) s m args below meth c H locs 0 0 Q (F0 m 48 ls []) := by
          intro f
          induction f with
          | zero => intros; omega
          | succ f ih48 =>
            intro v5_48  NL48 iv5_48 hIL48 hFL48 hf48 H locs ls w hl
            refine lv_iload hx hb dX12_passesOnce_48 (lv_at hl 0 rfl) ?_
            refine lv_aload_n hx hb dX12_passesOnce_50 rfl (lv_at hl 4 rfl) ?_
            refine f_12_2 F w (a := 146) rfl tb_45 dX12_passesOnce_51 ?_
            refine lv_bipush (v := zI 25) hx hb dX12_passesOnce_54 (by decide) ?_
            refine g_iald F w (a := 148) rfl (j := 25) ⟨by decide, by decide⟩ (by omega) dX12_passesOnce_56 ?_
            obtain ⟨z63, bz63, ez63⟩ := IvR.ld (k := 25) hIL48 (show ivr 148 25 = (0, 12) from rfl) (show 146 ≤ 148 ∧ 148 < 159 by decide)
            refine r_val ez63 ?_
            refine z_icmp_ge (tgt := 159) hx hb (by omega) (by omega) dX12_passesOnce_57 (by decide) (fun c64 => ?_) (fun c64 => ?_)
            · rw [hQ]
              exact e_v F w hr hlocks ⟨hIL48, hFL48⟩ dX12_passesOnce_159
            · refine lv_iload hx hb dX12_passesOnce_60 (lv_at hl 1 rfl) ?_
              refine z_if_eq (tgt := 80) hx hb (by omega) dX12_passesOnce_62 (by decide) (fun c65 => ?_) (fun c65 => False.elim (by omega))
              refine lv_iload hx hb dX12_passesOnce_80 (lv_at hl 0 rfl) ?_
              refine lv_istore (lv' := [(6, .int (zI v5_48)), (5, .int (zI v5_48)), (4, .int (zI 0)), (3, .int (zI z1)), (2, .int (zI (8 * x))), (0, .ref (B + 146)), (1, .int (zI x))]) hx hb dX12_passesOnce_82 hl (by decide) rfl (fun ls hl => ?_)
              refine lv_iload_n hx hb dX12_passesOnce_84 rfl (lv_at hl 3 rfl) ?_
              refine z_if_ne (tgt := 99) hx hb (by omega) dX12_passesOnce_85 (by decide) (fun c66 => ?_) (fun c66 => ?_)
              · refine lv_iload_n hx hb dX12_passesOnce_99 rfl (lv_at hl 3 rfl) ?_
                refine lv_bipush (v := zI 8) hx hb dX12_passesOnce_100 (by decide) ?_
                refine z_icmp_ne (tgt := 139) hx hb (by omega) (by omega) dX12_passesOnce_102 (by decide) (fun c67 => ?_) (fun c67 => ?_)
                · refine lv_aload_n hx hb dX12_passesOnce_139 rfl (lv_at hl 5 rfl) ?_
                  refine lv_iload hx hb dX12_passesOnce_140 (lv_at hl 0 rfl) ?_
                  refine lv_aload_n hx hb dX12_passesOnce_142 rfl (lv_at hl 5 rfl) ?_
                  refine f_12_4 F w (a := 146) rfl tb_532 dX12_passesOnce_143 ?_
                  refine lv_iload_n hx hb dX12_passesOnce_146 rfl (lv_at hl 4 rfl) ?_
                  refine lv_iconst (v := zI 2) hx hb dX12_passesOnce_147 rfl ?_
                  refine z_iadd (z := ((8 * x) + 2)) hx hb dX12_passesOnce_148 (by omega) ?_
                  refine g_iald F w (a := 149) rfl (j := (Int.toNat ((8 * x) + 2))) (ix_z (by omega) (by omega)) (by omega) dX12_passesOnce_149 ?_
                  obtain ⟨z68, bz68, ez68⟩ := IvR.ld (k := (Int.toNat ((8 * x) + 2))) hIL48 (show ivr 149 (Int.toNat ((8 * x) + 2)) = ((-99), 300) from rfl) (show 146 ≤ 149 ∧ 149 < 159 by decide)
                  refine r_val ez68 ?_
                  obtain ⟨z69, bz69, ez69⟩ := IvR.ld (k := 0) hIL48 (show ivr 148 0 = (0, 12) from rfl) (show 146 ≤ 148 ∧ 148 < 159 by decide)
                  refine k_Vv F w (As := [.int (zI v5_48), .int (zI z68)]) (rest := []) (a := 146) (kd_lt (a := 146) (show kd 146 = (12, 0, 0) from rfl) (by decide)) (sh_12 rfl _ _) rfl (q_X12_fills (y := v5_48) ⟨by omega, by omega⟩ (x := z68) ⟨by omega, by omega⟩ (nn := z69) (ez69) ⟨by omega, by omega⟩  hIL48) gv_X12_150 hv_X12_fills ⟨(Nat.le_of_ble_eq_true rfl), (Nat.le_of_ble_eq_true rfl)⟩ hl.1 rfl (Nat.le_of_ble_eq_true rfl) ⟨Nat.zero_le _, Nat.zero_le _⟩ dX12_passesOnce_150 (fun N71 H locs hp w => ?_)
                  obtain ⟨hIN71, hFN71⟩ := hp
                  have hGN71 := Fr.tr hFL48 hFN71 (S := (fun b9 k9 => (b9 = 146 ∧ k9 = 3) ∨ b9 = 148)) (fun b k h => by (try dsimp only at h ⊢); rcases h with ⟨rfl, rfl⟩ | rfl <;> first | decide | omega)
                  refine z_iinc (v := (v5_48 + 1)) (lv' := [(5, .int (zI (v5_48 + 1))), (6, .int (zI v5_48)), (4, .int (zI 0)), (3, .int (zI z1)), (2, .int (zI (8 * x))), (0, .ref (B + 146)), (1, .int (zI x))]) hx hb dX12_passesOnce_153 hl (k := 1) rfl (by omega) (by decide) rfl (fun ls hl => ?_)
                  refine lv_goto (tgt := 48) hx hb dX12_passesOnce_156 (by decide) ?_
                  exact ih48 (v5_48 + 1) N71 (by omega)    hIN71 hGN71 (by omega) _ _ _ w (lv_sub hl [0, 2, 3, 4, 5, 6] rfl)
                · refine lv_aload_n hx hb dX12_passesOnce_105 rfl (lv_at hl 5 rfl) ?_
                  refine lv_iload hx hb dX12_passesOnce_106 (lv_at hl 0 rfl) ?_
                  refine lv_aload_n hx hb dX12_passesOnce_108 rfl (lv_at hl 5 rfl) ?_
                  refine f_12_4 F w (a := 146) rfl tb_532 dX12_passesOnce_109 ?_
                  refine lv_iload_n hx hb dX12_passesOnce_112 rfl (lv_at hl 4 rfl) ?_
                  refine lv_iconst (v := zI 3) hx hb dX12_passesOnce_113 rfl ?_
                  refine z_iadd (z := ((8 * x) + 3)) hx hb dX12_passesOnce_114 (by omega) ?_
                  refine g_iald F w (a := 149) rfl (j := (Int.toNat ((8 * x) + 3))) (ix_z (by omega) (by omega)) (by omega) dX12_passesOnce_115 ?_
                  obtain ⟨z73, bz73, ez73⟩ := RK_ld hIL48 (r := x) (by omega) (((hFL48 149 _ (by first | decide | (dsimp only; first | done | decide | omega) | omega)).trans ez1).trans (congrArg zI (show z1 = 8 by omega)))
                  refine r_val ez73 ?_
                  refine lv_aload_n hx hb dX12_passesOnce_116 rfl (lv_at hl 5 rfl) ?_
                  refine f_12_4 F w (a := 146) rfl tb_532 dX12_passesOnce_117 ?_
                  refine lv_iload_n hx hb dX12_passesOnce_120 rfl (lv_at hl 4 rfl) ?_
                  refine lv_iconst (v := zI 4) hx hb dX12_passesOnce_121 rfl ?_
                  refine z_iadd (z := ((8 * x) + 4)) hx hb dX12_passesOnce_122 (by omega) ?_
                  refine g_iald F w (a := 149) rfl (j := (Int.toNat ((8 * x) + 4))) (ix_z (by omega) (by omega)) (by omega) dX12_passesOnce_123 ?_
                  obtain ⟨z74, bz74, ez74⟩ := IvR.ld (k := (Int.toNat ((8 * x) + 4))) hIL48 (show ivr 149 (Int.toNat ((8 * x) + 4)) = ((-99), 300) from rfl) (show 146 ≤ 149 ∧ 149 < 159 by decide)
                  refine r_val ez74 ?_
                  refine lv_iconst (v := zI 1) hx hb dX12_passesOnce_124 rfl ?_
                  refine z_icmp_ne (tgt := 132) hx hb (by omega) (by omega) dX12_passesOnce_125 (by decide) (fun c75 => ?_) (fun c75 => ?_)
                  · refine lv_iconst (v := zI 0) hx hb dX12_passesOnce_132 rfl ?_
                    refine k_Vv F w (As := [.int (zI v5_48), .int (zI z73), .int (zI 0)]) (rest := []) (a := 146) (kd_lt (a := 146) (show kd 146 = (12, 0, 0) from rfl) (by decide)) (sh_12 rfl _ _) rfl (q_X12_flattens (y := v5_48) ⟨by omega, by omega⟩ (x := z73) ⟨by omega, by omega⟩ (x1 := 0) ⟨by omega, by omega⟩  hIL48) gv_X12_146 hv_X12_flattens ⟨(Nat.le_of_ble_eq_true rfl), (Nat.le_of_ble_eq_true rfl)⟩ hl.1 rfl (Nat.le_of_ble_eq_true rfl) ⟨Nat.zero_le _, Nat.zero_le _⟩ dX12_passesOnce_133 (fun N77 H locs hp w => ?_)
                    obtain ⟨hIN77, hFN77⟩ := hp
                    have hGN77 := Fr.tr hFL48 hFN77 (S := (fun b9 k9 => (b9 = 146 ∧ k9 = 3) ∨ b9 = 148)) (fun b k h => by (try dsimp only at h ⊢); rcases h with ⟨rfl, rfl⟩ | ⟨rfl, q1, q2⟩ <;> first | decide | omega)
                    have kn79 : N77.1 148 25 = zI z63 := (hFN77 148 25 (by first | decide | (dsimp only; first | done | decide | omega) | omega)).trans (ez63)
                    refine lv_goto (tgt := 153) hx hb dX12_passesOnce_136 (by decide) ?_
                    refine z_iinc (v := (v5_48 + 1)) (lv' := [(5, .int (zI (v5_48 + 1))), (6, .int (zI v5_48)), (4, .int (zI 0)), (3, .int (zI z1)), (2, .int (zI (8 * x))), (0, .ref (B + 146)), (1, .int (zI x))]) hx hb dX12_passesOnce_153 hl (k := 1) rfl (by omega) (by decide) rfl (fun ls hl => ?_)
                    refine lv_goto (tgt := 48) hx hb dX12_passesOnce_156 (by decide) ?_
                    exact ih48 (v5_48 + 1) N77 (by omega)    hIN77 hGN77 (by omega) _ _ _ w (lv_sub hl [0, 2, 3, 4, 5, 6] rfl)
                  · refine lv_iconst (v := zI 1) hx hb dX12_passesOnce_128 rfl ?_
                    refine lv_goto (tgt := 133) hx hb dX12_passesOnce_129 (by decide) ?_
                    refine k_Vv F w (As := [.int (zI v5_48), .int (zI z73), .int (zI 1)]) (rest := []) (a := 146) (kd_lt (a := 146) (show kd 146 = (12, 0, 0) from rfl) (by decide)) (sh_12 rfl _ _) rfl (q_X12_flattens (y := v5_48) ⟨by omega, by omega⟩ (x := z73) ⟨by omega, by omega⟩ (x1 := 1) ⟨by omega, by omega⟩  hIL48) gv_X12_146 hv_X12_flattens ⟨(Nat.le_of_ble_eq_true rfl), (Nat.le_of_ble_eq_true rfl)⟩ hl.1 rfl (Nat.le_of_ble_eq_true rfl) ⟨Nat.zero_le _, Nat.zero_le _⟩ dX12_passesOnce_133 (fun N81 H locs hp w => ?_)
                    obtain ⟨hIN81, hFN81⟩ := hp
                    have hGN81 := Fr.tr hFL48 hFN81 (S := (fun b9 k9 => (b9 = 146 ∧ k9 = 3) ∨ b9 = 148)) (fun b k h => by (try dsimp only at h ⊢); rcases h with ⟨rfl, rfl⟩ | ⟨rfl, q1, q2⟩ <;> first | decide | omega)
                    have kn83 : N81.1 148 25 = zI z63 := (hFN81 148 25 (by first | decide | (dsimp only; first | done | decide | omega) | omega)).trans (ez63)
                    refine lv_goto (tgt := 153) hx hb dX12_passesOnce_136 (by decide) ?_
                    refine z_iinc (v := (v5_48 + 1)) (lv' := [(5, .int (zI (v5_48 + 1))), (6, .int (zI v5_48)), (4, .int (zI 0)), (3, .int (zI z1)), (2, .int (zI (8 * x))), (0, .ref (B + 146)), (1, .int (zI x))]) hx hb dX12_passesOnce_153 hl (k := 1) rfl (by omega) (by decide) rfl (fun ls hl => ?_)
                    refine lv_goto (tgt := 48) hx hb dX12_passesOnce_156 (by decide) ?_
                    exact ih48 (v5_48 + 1) N81 (by omega)    hIN81 hGN81 (by omega) _ _ _ w (lv_sub hl [0, 2, 3, 4, 5, 6] rfl)
              · refine lv_aload_n hx hb dX12_passesOnce_88 rfl (lv_at hl 5 rfl) ?_
                refine lv_iload hx hb dX12_passesOnce_89 (lv_at hl 0 rfl) ?_
                refine lv_iload hx hb dX12_passesOnce_91 (lv_at hl 2 rfl) ?_
                refine k_Vv F w (As := [.int (zI v5_48), .int (zI 0)]) (rest := []) (a := 146) (kd_lt (a := 146) (show kd 146 = (12, 0, 0) from rfl) (by decide)) (sh_12 rfl _ _) rfl (q_X12_links (y := v5_48) ⟨by omega, by omega⟩ (x := 0) ⟨by omega, by omega⟩  hIL48) gv_X12_143 hv_X12_links ⟨(Nat.le_of_ble_eq_true rfl), (Nat.le_of_ble_eq_true rfl)⟩ hl.1 rfl (Nat.le_of_ble_eq_true rfl) ⟨Nat.zero_le _, Nat.zero_le _⟩ dX12_passesOnce_93 (fun N85 H locs hp w => ?_)
                obtain ⟨hIN85, hFN85⟩ := hp
                have hGN85 := Fr.tr hFL48 hFN85 (S := (fun b9 k9 => (b9 = 146 ∧ k9 = 3) ∨ b9 = 148)) (fun b k h => by (try dsimp only at h ⊢); rcases h with ⟨rfl, rfl⟩ | ⟨rfl, q1, q2⟩ <;> first | decide | omega)
                have kn87 : N85.1 148 25 = zI z63 := (hFN85 148 25 (by first | decide | (dsimp only; first | done | decide | omega) | omega)).trans (ez63)
                refine lv_goto (tgt := 153) hx hb dX12_passesOnce_96 (by decide) ?_
                refine z_iinc (v := (v5_48 + 1)) (lv' := [(5, .int (zI (v5_48 + 1))), (6, .int (zI v5_48)), (4, .int (zI 0)), (3, .int (zI z1)), (2, .int (zI (8 * x))), (0, .ref (B + 146)), (1, .int (zI x))]) hx hb dX12_passesOnce_153 hl (k := 1) rfl (by omega) (by decide) rfl (fun ls hl => ?_)
                refine lv_goto (tgt := 48) hx hb dX12_passesOnce_156 (by decide) ?_
                exact ih48 (v5_48 + 1) N85 (by omega)    hIN85 hGN85 (by omega) _ _ _ w (lv_sub hl [0, 2, 3, 4, 5, 6] rfl)
        exact lp48 _ 0 M (by omega) hI hF (Nat.lt_succ_self _) _ _ _ w (lv_sub hl [0, 1, 2, 3, 4, 5] rfl)
    · refine lv_iconst (v := zI 1) hx hb dX12_passesOnce_31 rfl ?_
      refine lv_goto (tgt := 36) hx hb dX12_passesOnce_32 (by decide) ?_
      refine lv_istore (lv' := [(4, .int (zI 1)), (3, .int (zI z1)), (2, .int (zI (8 * x))), (0, .ref (B + 146)), (1, .int (zI x))]) hx hb dX12_passesOnce_36 hl (by decide) rfl (fun ls hl => ?_)
      refine lv_iload_n hx hb dX12_passesOnce_38 rfl (lv_at hl 1 rfl) ?_
      refine k_Si F w (As := [.int (zI z1)]) (rest := []) (q_X12_isBySyllables (x := z1) ⟨by omega, by omega⟩  hI) gs_X12_140 hs_X12_isBySyllables ⟨(Nat.le_of_ble_eq_true rfl), (Nat.le_of_ble_eq_true rfl)⟩ hl.1 rfl (Nat.le_of_ble_eq_true rfl) ⟨Nat.zero_le _, Nat.zero_le _⟩ dX12_passesOnce_39 (fun r88 N89 H locs hp w => ?_)
      obtain ⟨z90, rfl, bz90, xz90, hMN89⟩ := hp
      rw [hMN89] at w
      refine z_if_eq (tgt := 160) hx hb (by omega) dX12_passesOnce_42 (by decide) (fun c91 => ?_) (fun c91 => ?_)
      · refine lv_iload hx hb dX12_passesOnce_160 (lv_at hl 0 rfl) ?_
        refine z_if_eq (tgt := 176) hx hb (by omega) dX12_passesOnce_162 (by decide) (fun c92 => False.elim (by omega)) (fun c92 => ?_)
        refine lv_aload_n hx hb dX12_passesOnce_165 rfl (lv_at hl 3 rfl) ?_
        refine f_12_2 F w (a := 146) rfl tb_45 dX12_passesOnce_166 ?_
        refine lv_iconst (v := zI 0) hx hb dX12_passesOnce_169 rfl ?_
        refine g_iald F w (a := 148) rfl (j := 0) ⟨by decide, by decide⟩ (by omega) dX12_passesOnce_170 ?_
        obtain ⟨z93, bz93, ez93⟩ := IvR.ld (k := 0) hI (show ivr 148 0 = (0, 12) from rfl) (show 146 ≤ 148 ∧ 148 < 159 by decide)
        refine r_val ez93 ?_
        refine lv_iconst (v := zI 1) hx hb dX12_passesOnce_171 rfl ?_
        refine z_isub (z := (z93 - 1)) hx hb dX12_passesOnce_172 (by omega) ?_
        refine lv_goto (tgt := 177) hx hb dX12_passesOnce_173 (by decide) ?_
        refine lv_istore (lv' := [(5, .int (zI (z93 - 1))), (4, .int (zI 1)), (3, .int (zI z1)), (2, .int (zI (8 * x))), (0, .ref (B + 146)), (1, .int (zI x))]) hx hb dX12_passesOnce_177 hl (by decide) rfl (fun ls hl => ?_)
        have lp179 : ∀ (f : Nat) (v5_179 : Int) (g148_0_179 : Int) (NL179 : Mem), ((-1) ≤ v5_179 ∧ v5_179 ≤ 11) → (0 ≤ g148_0_179 ∧ g148_0_179 ≤ 12) → NL179.1 148 0 = zI g148_0_179 → IvR NL179 → Fr (fun b9 k9 => (b9 = 146 ∧ k9 = 3) ∨ b9 = 148) NL179 M → (Int.toNat (v5_179 + 1) < f) → ∀ (H : Heap) (locs : List Loc) (ls : Array Slot), Wd D B cy s s.heap NL179 H locs → lv_has ls 7 [(5, .int (zI v5_179)), (4, .int (zI 1)), (3, .int (zI z1)), (2, .int (zI (8 * x))), (0, .ref (B + 146)), (1, .int (zI x))] → W p l e (rmm 6 140) s m args below meth c H locs 0 0 Q (F0 m 179 ls []) := by
          intro f
          induction f with
          | zero => intros; omega
          | succ f ih179 =>
            intro v5_179 g148_0_179 NL179 iv5_179 ig148_0_179 eg148_0_179 hIL179 hFL179 hf179 H locs ls w hl
            refine lv_aload_n hx hb dX12_passesOnce_179 rfl (lv_at hl 4 rfl) ?_
            refine f_12_2 F w (a := 146) rfl tb_45 dX12_passesOnce_180 ?_
            refine lv_iload hx hb dX12_passesOnce_183 (lv_at hl 0 rfl) ?_
            refine k_Si F w (As := [.ref (B + 148), .int (zI v5_179)]) (rest := []) (q_X12_isTone_148 (t := v5_179) ⟨by omega, by omega⟩ (nn := g148_0_179) (eg148_0_179) ⟨by omega, by omega⟩  hIL179) gs_X12_105 hs_X12_isTone ⟨(Nat.le_of_ble_eq_true rfl), (Nat.le_of_ble_eq_true rfl)⟩ hl.1 rfl (Nat.le_of_ble_eq_true rfl) ⟨Nat.zero_le _, Nat.zero_le _⟩ dX12_passesOnce_185 (fun r94 N95 H locs hp w => ?_)
            obtain ⟨z96, rfl, bz96, xz96, hMN95⟩ := hp
            rw [hMN95] at w
            refine z_if_eq (tgt := 222) hx hb (by omega) dX12_passesOnce_188 (by decide) (fun c97 => ?_) (fun c97 => ?_)
            · rw [hQ]
              exact e_v F w hr hlocks ⟨hIL179, hFL179⟩ dX12_passesOnce_222
            · refine lv_aload_n hx hb dX12_passesOnce_191 rfl (lv_at hl 4 rfl) ?_
              refine lv_iload_n hx hb dX12_passesOnce_192 rfl (lv_at hl 5 rfl) ?_
              refine lv_iload hx hb dX12_passesOnce_193 (lv_at hl 0 rfl) ?_
              refine k_Vi F w (As := [.int (zI x), .int (zI v5_179)]) (rest := []) (a := 146) (kd_lt (a := 146) (show kd 146 = (12, 0, 0) from rfl) (by decide)) (sh_12 rfl _ _) rfl (q_X12_treats (x := x) ⟨by omega, by omega⟩ (t := v5_179) ⟨by omega, by omega⟩ (nn := g148_0_179) (eg148_0_179) ⟨by omega, by omega⟩ (by omega) hIL179) gv_X12_153 hv_X12_treats ⟨(Nat.le_of_ble_eq_true rfl), (Nat.le_of_ble_eq_true rfl)⟩ hl.1 rfl (Nat.le_of_ble_eq_true rfl) ⟨Nat.zero_le _, Nat.zero_le _⟩ dX12_passesOnce_195 (fun r98 N99 H locs hp w => ?_)
              obtain ⟨z100, rfl, bz100, ⟨nz1000, enz1000, xz100⟩, hIN99, hFN99⟩ := hp
              have hGN99 := Fr.tr hFL179 hFN99 (S := (fun b9 k9 => (b9 = 146 ∧ k9 = 3) ∨ b9 = 148)) (fun b k h => by (try dsimp only at h ⊢); rcases h with ⟨rfl, rfl⟩ | rfl <;> first | decide | omega)
              refine lv_istore (lv' := [(6, .int (zI z100)), (5, .int (zI v5_179)), (4, .int (zI 1)), (3, .int (zI z1)), (2, .int (zI (8 * x))), (0, .ref (B + 146)), (1, .int (zI x))]) hx hb dX12_passesOnce_198 hl (by decide) rfl (fun ls hl => ?_)
              refine lv_iload hx hb dX12_passesOnce_200 (lv_at hl 2 rfl) ?_
              refine z_if_eq (tgt := 211) hx hb (by omega) dX12_passesOnce_202 (by decide) (fun c101 => False.elim (by omega)) (fun c101 => ?_)
              refine z_iinc (v := (v5_179 - 1)) (lv' := [(5, .int (zI (v5_179 - 1))), (6, .int (zI z100)), (4, .int (zI 1)), (3, .int (zI z1)), (2, .int (zI (8 * x))), (0, .ref (B + 146)), (1, .int (zI x))]) hx hb dX12_passesOnce_205 hl (k := 1) rfl (by omega) (by decide) rfl (fun ls hl => ?_)
              refine lv_goto (tgt := 219) hx hb dX12_passesOnce_208 (by decide) ?_
              refine lv_goto (tgt := 179) hx hb dX12_passesOnce_219 (by decide) ?_
              exact ih179 (v5_179 - 1) nz1000 N99 (by omega) (by omega) (enz1000)  hIN99 hGN99 (by omega) _ _ _ w (lv_sub hl [0, 2, 3, 4, 5, 6] rfl)
        exact lp179 _ (z93 - 1) z93 M (by omega) (by omega) (ez93) hI hF (Nat.lt_succ_self _) _ _ _ w (lv_sub hl [0, 1, 2, 3, 4, 5] rfl)
      · refine lv_iconst (v := zI 0) hx hb dX12_passesOnce_45 rfl ?_
        refine lv_istore (lv' := [(5, .int (zI 0)), (4, .int (zI 1)), (3, .int (zI z1)), (2, .int (zI (8 * x))), (0, .ref (B + 146)), (1, .int (zI x))]) hx hb dX12_passesOnce_46 hl (by decide) rfl (fun ls hl => ?_)
        have lp48 : ∀ (f : Nat) (v5_48 : Int)  (NL48 : Mem), (0 ≤ v5_48 ∧ v5_48 ≤ 12) → IvR NL48 → Fr (fun b9 k9 => (b9 = 146 ∧ k9 = 3) ∨ b9 = 148) NL48 M → (Int.toNat (12 - v5_48) < f) → ∀ (H : Heap) (locs : List Loc) (ls : Array Slot), Wd D B cy s s.heap NL48 H locs → lv_has ls 7 [(5, .int (zI v5_48)), (4, .int (zI 1)), (3, .int (zI z1)), (2, .int (zI (8 * x))), (0, .ref (B + 146)), (1, .int (zI x))] → W p l e (rmm 6 140) s m args below meth c H locs 0 0 Q (F0 m 48 ls []) := by
          intro f
          induction f with
          | zero => intros; omega
          | succ f ih48 =>
            intro v5_48  NL48 iv5_48 hIL48 hFL48 hf48 H locs ls w hl
            refine lv_iload hx hb dX12_passesOnce_48 (lv_at hl 0 rfl) ?_
            refine lv_aload_n hx hb dX12_passesOnce_50 rfl (lv_at hl 4 rfl) ?_
            refine f_12_2 F w (a := 146) rfl tb_45 dX12_passesOnce_51 ?_
            refine lv_bipush (v := zI 25) hx hb dX12_passesOnce_54 (by decide) ?_
            refine g_iald F w (a := 148) rfl (j := 25) ⟨by decide, by decide⟩ (by omega) dX12_passesOnce_56 ?_
            obtain ⟨z102, bz102, ez102⟩ := IvR.ld (k := 25) hIL48 (show ivr 148 25 = (0, 12) from rfl) (show 146 ≤ 148 ∧ 148 < 159 by decide)
            refine r_val ez102 ?_
            refine z_icmp_ge (tgt := 159) hx hb (by omega) (by omega) dX12_passesOnce_57 (by decide) (fun c103 => ?_) (fun c103 => ?_)
            · rw [hQ]
              exact e_v F w hr hlocks ⟨hIL48, hFL48⟩ dX12_passesOnce_159
            · refine lv_iload hx hb dX12_passesOnce_60 (lv_at hl 1 rfl) ?_
              refine z_if_eq (tgt := 80) hx hb (by omega) dX12_passesOnce_62 (by decide) (fun c104 => False.elim (by omega)) (fun c104 => ?_)
              refine lv_aload_n hx hb dX12_passesOnce_65 rfl (lv_at hl 4 rfl) ?_
              refine f_12_2 F w (a := 146) rfl tb_45 dX12_passesOnce_66 ?_
              refine lv_bipush (v := zI 25) hx hb dX12_passesOnce_69 (by decide) ?_
              refine g_iald F w (a := 148) rfl (j := 25) ⟨by decide, by decide⟩ (by omega) dX12_passesOnce_71 ?_
              refine r_val (v := zI z102) (ez102) ?_
              refine lv_iconst (v := zI 1) hx hb dX12_passesOnce_72 rfl ?_
              refine z_isub (z := (z102 - 1)) hx hb dX12_passesOnce_73 (by omega) ?_
              refine lv_iload hx hb dX12_passesOnce_74 (lv_at hl 0 rfl) ?_
              refine z_isub (z := ((z102 - 1) - v5_48)) hx hb dX12_passesOnce_76 (by omega) ?_
              refine lv_goto (tgt := 82) hx hb dX12_passesOnce_77 (by decide) ?_
              refine lv_istore (lv' := [(6, .int (zI ((z102 - 1) - v5_48))), (5, .int (zI v5_48)), (4, .int (zI 1)), (3, .int (zI z1)), (2, .int (zI (8 * x))), (0, .ref (B + 146)), (1, .int (zI x))]) hx hb dX12_passesOnce_82 hl (by decide) rfl (fun ls hl => ?_)
              refine lv_iload_n hx hb dX12_passesOnce_84 rfl (lv_at hl 3 rfl) ?_
              refine z_if_ne (tgt := 99) hx hb (by omega) dX12_passesOnce_85 (by decide) (fun c105 => ?_) (fun c105 => ?_)
              · refine lv_iload_n hx hb dX12_passesOnce_99 rfl (lv_at hl 3 rfl) ?_
                refine lv_bipush (v := zI 8) hx hb dX12_passesOnce_100 (by decide) ?_
                refine z_icmp_ne (tgt := 139) hx hb (by omega) (by omega) dX12_passesOnce_102 (by decide) (fun c106 => ?_) (fun c106 => ?_)
                · refine lv_aload_n hx hb dX12_passesOnce_139 rfl (lv_at hl 5 rfl) ?_
                  refine lv_iload hx hb dX12_passesOnce_140 (lv_at hl 0 rfl) ?_
                  refine lv_aload_n hx hb dX12_passesOnce_142 rfl (lv_at hl 5 rfl) ?_
                  refine f_12_4 F w (a := 146) rfl tb_532 dX12_passesOnce_143 ?_
                  refine lv_iload_n hx hb dX12_passesOnce_146 rfl (lv_at hl 4 rfl) ?_
                  refine lv_iconst (v := zI 2) hx hb dX12_passesOnce_147 rfl ?_
                  refine z_iadd (z := ((8 * x) + 2)) hx hb dX12_passesOnce_148 (by omega) ?_
                  refine g_iald F w (a := 149) rfl (j := (Int.toNat ((8 * x) + 2))) (ix_z (by omega) (by omega)) (by omega) dX12_passesOnce_149 ?_
                  obtain ⟨z107, bz107, ez107⟩ := IvR.ld (k := (Int.toNat ((8 * x) + 2))) hIL48 (show ivr 149 (Int.toNat ((8 * x) + 2)) = ((-99), 300) from rfl) (show 146 ≤ 149 ∧ 149 < 159 by decide)
                  refine r_val ez107 ?_
                  obtain ⟨z108, bz108, ez108⟩ := IvR.ld (k := 0) hIL48 (show ivr 148 0 = (0, 12) from rfl) (show 146 ≤ 148 ∧ 148 < 159 by decide)
                  refine k_Vv F w (As := [.int (zI ((z102 - 1) - v5_48)), .int (zI z107)]) (rest := []) (a := 146) (kd_lt (a := 146) (show kd 146 = (12, 0, 0) from rfl) (by decide)) (sh_12 rfl _ _) rfl (q_X12_fills (y := ((z102 - 1) - v5_48)) ⟨by omega, by omega⟩ (x := z107) ⟨by omega, by omega⟩ (nn := z108) (ez108) ⟨by omega, by omega⟩  hIL48) gv_X12_150 hv_X12_fills ⟨(Nat.le_of_ble_eq_true rfl), (Nat.le_of_ble_eq_true rfl)⟩ hl.1 rfl (Nat.le_of_ble_eq_true rfl) ⟨Nat.zero_le _, Nat.zero_le _⟩ dX12_passesOnce_150 (fun N110 H locs hp w => ?_)
                  obtain ⟨hIN110, hFN110⟩ := hp
                  have hGN110 := Fr.tr hFL48 hFN110 (S := (fun b9 k9 => (b9 = 146 ∧ k9 = 3) ∨ b9 = 148)) (fun b k h => by (try dsimp only at h ⊢); rcases h with ⟨rfl, rfl⟩ | rfl <;> first | decide | omega)
                  refine z_iinc (v := (v5_48 + 1)) (lv' := [(5, .int (zI (v5_48 + 1))), (6, .int (zI ((z102 - 1) - v5_48))), (4, .int (zI 1)), (3, .int (zI z1)), (2, .int (zI (8 * x))), (0, .ref (B + 146)), (1, .int (zI x))]) hx hb dX12_passesOnce_153 hl (k := 1) rfl (by omega) (by decide) rfl (fun ls hl => ?_)
                  refine lv_goto (tgt := 48) hx hb dX12_passesOnce_156 (by decide) ?_
                  exact ih48 (v5_48 + 1) N110 (by omega)    hIN110 hGN110 (by omega) _ _ _ w (lv_sub hl [0, 2, 3, 4, 5, 6] rfl)
                · refine lv_aload_n hx hb dX12_passesOnce_105 rfl (lv_at hl 5 rfl) ?_
                  refine lv_iload hx hb dX12_passesOnce_106 (lv_at hl 0 rfl) ?_
                  refine lv_aload_n hx hb dX12_passesOnce_108 rfl (lv_at hl 5 rfl) ?_
                  refine f_12_4 F w (a := 146) rfl tb_532 dX12_passesOnce_109 ?_
                  refine lv_iload_n hx hb dX12_passesOnce_112 rfl (lv_at hl 4 rfl) ?_
                  refine lv_iconst (v := zI 3) hx hb dX12_passesOnce_113 rfl ?_
                  refine z_iadd (z := ((8 * x) + 3)) hx hb dX12_passesOnce_114 (by omega) ?_
                  refine g_iald F w (a := 149) rfl (j := (Int.toNat ((8 * x) + 3))) (ix_z (by omega) (by omega)) (by omega) dX12_passesOnce_115 ?_
                  obtain ⟨z112, bz112, ez112⟩ := RK_ld hIL48 (r := x) (by omega) (((hFL48 149 _ (by first | decide | (dsimp only; first | done | decide | omega) | omega)).trans ez1).trans (congrArg zI (show z1 = 8 by omega)))
                  refine r_val ez112 ?_
                  refine lv_aload_n hx hb dX12_passesOnce_116 rfl (lv_at hl 5 rfl) ?_
                  refine f_12_4 F w (a := 146) rfl tb_532 dX12_passesOnce_117 ?_
                  refine lv_iload_n hx hb dX12_passesOnce_120 rfl (lv_at hl 4 rfl) ?_
                  refine lv_iconst (v := zI 4) hx hb dX12_passesOnce_121 rfl ?_
                  refine z_iadd (z := ((8 * x) + 4)) hx hb dX12_passesOnce_122 (by omega) ?_
                  refine g_iald F w (a := 149) rfl (j := (Int.toNat ((8 * x) + 4))) (ix_z (by omega) (by omega)) (by omega) dX12_passesOnce_123 ?_
                  obtain ⟨z113, bz113, ez113⟩ := IvR.ld (k := (Int.toNat ((8 * x) + 4))) hIL48 (show ivr 149 (Int.toNat ((8 * x) + 4)) = ((-99), 300) from rfl) (show 146 ≤ 149 ∧ 149 < 159 by decide)
                  refine r_val ez113 ?_
                  refine lv_iconst (v := zI 1) hx hb dX12_passesOnce_124 rfl ?_
                  refine z_icmp_ne (tgt := 132) hx hb (by omega) (by omega) dX12_passesOnce_125 (by decide) (fun c114 => ?_) (fun c114 => ?_)
                  · refine lv_iconst (v := zI 0) hx hb dX12_passesOnce_132 rfl ?_
                    refine k_Vv F w (As := [.int (zI ((z102 - 1) - v5_48)), .int (zI z112), .int (zI 0)]) (rest := []) (a := 146) (kd_lt (a := 146) (show kd 146 = (12, 0, 0) from rfl) (by decide)) (sh_12 rfl _ _) rfl (q_X12_flattens (y := ((z102 - 1) - v5_48)) ⟨by omega, by omega⟩ (x := z112) ⟨by omega, by omega⟩ (x1 := 0) ⟨by omega, by omega⟩  hIL48) gv_X12_146 hv_X12_flattens ⟨(Nat.le_of_ble_eq_true rfl), (Nat.le_of_ble_eq_true rfl)⟩ hl.1 rfl (Nat.le_of_ble_eq_true rfl) ⟨Nat.zero_le _, Nat.zero_le _⟩ dX12_passesOnce_133 (fun N116 H locs hp w => ?_)
                    obtain ⟨hIN116, hFN116⟩ := hp
                    have hGN116 := Fr.tr hFL48 hFN116 (S := (fun b9 k9 => (b9 = 146 ∧ k9 = 3) ∨ b9 = 148)) (fun b k h => by (try dsimp only at h ⊢); rcases h with ⟨rfl, rfl⟩ | ⟨rfl, q1, q2⟩ <;> first | decide | omega)
                    have kn118 : N116.1 148 25 = zI z102 := (hFN116 148 25 (by first | decide | (dsimp only; first | done | decide | omega) | omega)).trans (ez102)
                    refine lv_goto (tgt := 153) hx hb dX12_passesOnce_136 (by decide) ?_
                    refine z_iinc (v := (v5_48 + 1)) (lv' := [(5, .int (zI (v5_48 + 1))), (6, .int (zI ((z102 - 1) - v5_48))), (4, .int (zI 1)), (3, .int (zI z1)), (2, .int (zI (8 * x))), (0, .ref (B + 146)), (1, .int (zI x))]) hx hb dX12_passesOnce_153 hl (k := 1) rfl (by omega) (by decide) rfl (fun ls hl => ?_)
                    refine lv_goto (tgt := 48) hx hb dX12_passesOnce_156 (by decide) ?_
                    exact ih48 (v5_48 + 1) N116 (by omega)    hIN116 hGN116 (by omega) _ _ _ w (lv_sub hl [0, 2, 3, 4, 5, 6] rfl)
                  · refine lv_iconst (v := zI 1) hx hb dX12_passesOnce_128 rfl ?_
                    refine lv_goto (tgt := 133) hx hb dX12_passesOnce_129 (by decide) ?_
                    refine k_Vv F w (As := [.int (zI ((z102 - 1) - v5_48)), .int (zI z112), .int (zI 1)]) (rest := []) (a := 146) (kd_lt (a := 146) (show kd 146 = (12, 0, 0) from rfl) (by decide)) (sh_12 rfl _ _) rfl (q_X12_flattens (y := ((z102 - 1) - v5_48)) ⟨by omega, by omega⟩ (x := z112) ⟨by omega, by omega⟩ (x1 := 1) ⟨by omega, by omega⟩  hIL48) gv_X12_146 hv_X12_flattens ⟨(Nat.le_of_ble_eq_true rfl), (Nat.le_of_ble_eq_true rfl)⟩ hl.1 rfl (Nat.le_of_ble_eq_true rfl) ⟨Nat.zero_le _, Nat.zero_le _⟩ dX12_passesOnce_133 (fun N120 H locs hp w => ?_)
                    obtain ⟨hIN120, hFN120⟩ := hp
                    have hGN120 := Fr.tr hFL48 hFN120 (S := (fun b9 k9 => (b9 = 146 ∧ k9 = 3) ∨ b9 = 148)) (fun b k h => by (try dsimp only at h ⊢); rcases h with ⟨rfl, rfl⟩ | ⟨rfl, q1, q2⟩ <;> first | decide | omega)
                    have kn122 : N120.1 148 25 = zI z102 := (hFN120 148 25 (by first | decide | (dsimp only; first | done | decide | omega) | omega)).trans (ez102)
                    refine lv_goto (tgt := 153) hx hb dX12_passesOnce_136 (by decide) ?_
                    refine z_iinc (v := (v5_48 + 1)) (lv' := [(5, .int (zI (v5_48 + 1))), (6, .int (zI ((z102 - 1) - v5_48))), (4, .int (zI 1)), (3, .int (zI z1)), (2, .int (zI (8 * x))), (0, .ref (B + 146)), (1, .int (zI x))]) hx hb dX12_passesOnce_153 hl (k := 1) rfl (by omega) (by decide) rfl (fun ls hl => ?_)
                    refine lv_goto (tgt := 48) hx hb dX12_passesOnce_156 (by decide) ?_
                    exact ih48 (v5_48 + 1) N120 (by omega)    hIN120 hGN120 (by omega) _ _ _ w (lv_sub hl [0, 2, 3, 4, 5, 6] rfl)
              · refine lv_aload_n hx hb dX12_passesOnce_88 rfl (lv_at hl 5 rfl) ?_
                refine lv_iload hx hb dX12_passesOnce_89 (lv_at hl 0 rfl) ?_
                refine lv_iload hx hb dX12_passesOnce_91 (lv_at hl 2 rfl) ?_
                refine k_Vv F w (As := [.int (zI ((z102 - 1) - v5_48)), .int (zI 1)]) (rest := []) (a := 146) (kd_lt (a := 146) (show kd 146 = (12, 0, 0) from rfl) (by decide)) (sh_12 rfl _ _) rfl (q_X12_links (y := ((z102 - 1) - v5_48)) ⟨by omega, by omega⟩ (x := 1) ⟨by omega, by omega⟩  hIL48) gv_X12_143 hv_X12_links ⟨(Nat.le_of_ble_eq_true rfl), (Nat.le_of_ble_eq_true rfl)⟩ hl.1 rfl (Nat.le_of_ble_eq_true rfl) ⟨Nat.zero_le _, Nat.zero_le _⟩ dX12_passesOnce_93 (fun N124 H locs hp w => ?_)
                obtain ⟨hIN124, hFN124⟩ := hp
                have hGN124 := Fr.tr hFL48 hFN124 (S := (fun b9 k9 => (b9 = 146 ∧ k9 = 3) ∨ b9 = 148)) (fun b k h => by (try dsimp only at h ⊢); rcases h with ⟨rfl, rfl⟩ | ⟨rfl, q1, q2⟩ <;> first | decide | omega)
                have kn126 : N124.1 148 25 = zI z102 := (hFN124 148 25 (by first | decide | (dsimp only; first | done | decide | omega) | omega)).trans (ez102)
                refine lv_goto (tgt := 153) hx hb dX12_passesOnce_96 (by decide) ?_
                refine z_iinc (v := (v5_48 + 1)) (lv' := [(5, .int (zI (v5_48 + 1))), (6, .int (zI ((z102 - 1) - v5_48))), (4, .int (zI 1)), (3, .int (zI z1)), (2, .int (zI (8 * x))), (0, .ref (B + 146)), (1, .int (zI x))]) hx hb dX12_passesOnce_153 hl (k := 1) rfl (by omega) (by decide) rfl (fun ls hl => ?_)
                refine lv_goto (tgt := 48) hx hb dX12_passesOnce_156 (by decide) ?_
                exact ih48 (v5_48 + 1) N124 (by omega)    hIN124 hGN124 (by omega) _ _ _ w (lv_sub hl [0, 2, 3, 4, 5, 6] rfl)
        exact lp48 _ 0 M (by omega) hI hF (Nat.lt_succ_self _) _ _ _ w (lv_sub hl [0, 1, 2, 3, 4, 5] rfl)
theorem dX12_works_0 : decode cX12_works 0 = .ok (.iconst 0, 1) := wdX12_works_0
theorem dX12_works_1 : decode cX12_works 1 = .ok (.istore_n 2, 1) := wdX12_works_1
theorem dX12_works_2 : decode cX12_works 2 = .ok (.aload_n 0, 1) := wdX12_works_2
theorem dX12_works_3 : decode cX12_works 3 = .ok (.iconst 0, 1) := wdX12_works_3
theorem dX12_works_4 : decode cX12_works 4 = .ok (.putfield 156, 3) := wdX12_works_4
theorem tb_576 : Cond.fieldLink "ToneLinesModel" 156 "ToneLinesModel" "passMany" "I" ∈ TB := wtb_175
theorem dX12_works_7 : decode cX12_works 7 = .ok (.iconst 1, 1) := wdX12_works_7
theorem dX12_works_8 : decode cX12_works 8 = .ok (.istore_n 3, 1) := wdX12_works_8
theorem dX12_works_9 : decode cX12_works 9 = .ok (.iload_n 3, 1) := wdX12_works_9
theorem dX12_works_10 : decode cX12_works 10 = .ok (.ifCond .eq 70, 3) := wdX12_works_10
theorem dX12_works_13 : decode cX12_works 13 = .ok (.aload_n 0, 1) := wdX12_works_13
theorem dX12_works_14 : decode cX12_works 14 = .ok (.iconst 0, 1) := wdX12_works_14
theorem dX12_works_15 : decode cX12_works 15 = .ok (.putfield 66, 3) := wdX12_works_15
theorem dX12_works_18 : decode cX12_works 18 = .ok (.aload_n 0, 1) := wdX12_works_18
theorem dX12_works_19 : decode cX12_works 19 = .ok (.iload_n 1, 1) := wdX12_works_19
theorem dX12_works_20 : decode cX12_works 20 = .ok (.invokevirtual 159, 3) := wdX12_works_20
theorem tk_X12_passesOnce : Cond.code yX12_passesOnce cX12_passesOnce 7 none ∈ TB := wtk_X12_passesOnce
theorem gc_X12_passesOnce : GoodIn TB (cw yX12_passesOnce cX12_passesOnce 7 none) := goodIn_c2 tk_X12_passesOnce
theorem tb_577 : Cond.methodLink "ToneLinesModel" 159 yX12_passesOnce ∈ TB := wtb_172
theorem tb_578 : Cond.instanceMethod yX12_passesOnce ∈ TB := wtb_173
theorem tb_579 : Cond.selects "ToneLinesModel" yX12_passesOnce yX12_passesOnce ∈ TB := wtb_174
theorem gv_X12_159 : GoodIn TB (wsV RX12 159 RX12 yX12_passesOnce (cw yX12_passesOnce cX12_passesOnce 7 none)) := goodIn_4 tb_577 tb_578 tb_579 tb_38 gc_X12_passesOnce
theorem hv_X12_passesOnce : yX12_passesOnce.cls = RX12 ∧ yX12_passesOnce.cls ≠ "java/lang/invoke/MethodHandle" ∧ yX12_passesOnce.cls ≠ "java/lang/invoke/VarHandle" ∧ (parseMethodDescriptor yX12_passesOnce.desc).map (fun d => d.parameters.length) = some 1 := whv_X12_passesOnce
theorem dX12_works_23 : decode cX12_works 23 = .ok (.aload_n 0, 1) := wdX12_works_23
theorem dX12_works_24 : decode cX12_works 24 = .ok (.dup, 1) := wdX12_works_24
theorem dX12_works_25 : decode cX12_works 25 = .ok (.getfield 156, 3) := wdX12_works_25
theorem dX12_works_28 : decode cX12_works 28 = .ok (.iconst 1, 1) := wdX12_works_28
theorem dX12_works_29 : decode cX12_works 29 = .ok (.iadd, 1) := wdX12_works_29
theorem dX12_works_30 : decode cX12_works 30 = .ok (.putfield 156, 3) := wdX12_works_30
theorem dX12_works_33 : decode cX12_works 33 = .ok (.iload_n 2, 1) := wdX12_works_33
theorem dX12_works_34 : decode cX12_works 34 = .ok (.aload_n 0, 1) := wdX12_works_34
theorem dX12_works_35 : decode cX12_works 35 = .ok (.getfield 66, 3) := wdX12_works_35
theorem dX12_works_38 : decode cX12_works 38 = .ok (.iadd, 1) := wdX12_works_38
theorem dX12_works_39 : decode cX12_works 39 = .ok (.istore_n 2, 1) := wdX12_works_39
theorem dX12_works_40 : decode cX12_works 40 = .ok (.aload_n 0, 1) := wdX12_works_40
theorem dX12_works_41 : decode cX12_works 41 = .ok (.getfield 20, 3) := wdX12_works_41
theorem dX12_works_44 : decode cX12_works 44 = .ok (.bipush 8, 2) := wdX12_works_44
theorem dX12_works_46 : decode cX12_works 46 = .ok (.iload_n 1, 1) := wdX12_works_46
theorem dX12_works_47 : decode cX12_works 47 = .ok (.imul, 1) := wdX12_works_47
theorem dX12_works_48 : decode cX12_works 48 = .ok (.iconst 1, 1) := wdX12_works_48
theorem dX12_works_49 : decode cX12_works 49 = .ok (.iadd, 1) := wdX12_works_49
theorem dX12_works_50 : decode cX12_works 50 = .ok (.iaload, 1) := wdX12_works_50
theorem dX12_works_51 : decode cX12_works 51 = .ok (.iconst 1, 1) := wdX12_works_51
theorem dX12_works_52 : decode cX12_works 52 = .ok (.if_icmp .ne 23, 3) := wdX12_works_52
theorem dX12_works_75 : decode cX12_works 75 = .ok (.iconst 0, 1) := wdX12_works_75
theorem dX12_works_76 : decode cX12_works 76 = .ok (.istore_n 3, 1) := wdX12_works_76
theorem dX12_works_77 : decode cX12_works 77 = .ok (.goto (-68), 3) := wdX12_works_77
theorem dX12_works_55 : decode cX12_works 55 = .ok (.aload_n 0, 1) := wdX12_works_55
theorem dX12_works_56 : decode cX12_works 56 = .ok (.getfield 66, 3) := wdX12_works_56
theorem dX12_works_59 : decode cX12_works 59 = .ok (.ifCond .le 16, 3) := wdX12_works_59
theorem dX12_works_62 : decode cX12_works 62 = .ok (.aload_n 0, 1) := wdX12_works_62
theorem dX12_works_63 : decode cX12_works 63 = .ok (.getfield 156, 3) := wdX12_works_63
theorem dX12_works_66 : decode cX12_works 66 = .ok (.bipush 20, 2) := wdX12_works_66
theorem dX12_works_68 : decode cX12_works 68 = .ok (.if_icmp .ge 7, 3) := wdX12_works_68
theorem dX12_works_71 : decode cX12_works 71 = .ok (.iconst 1, 1) := wdX12_works_71
theorem dX12_works_72 : decode cX12_works 72 = .ok (.goto 4, 3) := wdX12_works_72
theorem dX12_works_80 : decode cX12_works 80 = .ok (.iload_n 2, 1) := wdX12_works_80
theorem dX12_works_81 : decode cX12_works 81 = .ok (.ireturn, 1) := wdX12_works_81
set_option maxRecDepth 4000 in
theorem q_X12_works {l : Launch} {D : va_G} {B : Nat} {cy : Nat → ClassId} {M : Mem} {x : Int} (hx : 0 ≤ x ∧ x ≤ 7) (hI : IvR M) : Ci l D B cy yX12_works cX12_works 4 (some .int) 7 166 [.ref (B + 146), .int (zI x)] M (fun r M1 => ∃ z : Int, r = zI z ∧ ((-2147483648) ≤ z ∧ z ≤ 2147483647) ∧ IvR M1 ∧ Fr (fun b9 k9 => (b9 = 146 ∧ k9 = 3) ∨ (b9 = 146 ∧ k9 = 6) ∨ b9 = 148) M1 M) := by
  refine s_anyQ (by decide) (Nat.le_of_ble_eq_true rfl) ?_
  intro p e s m args below meth c ls Q F hr hlocks hQ w hl
  have F : CallFix p m c cX12_works 4 s args TB RX12 := F
  have hx := F.1
  have hb := F.2.1
  have hl : lv_has ls 4 [(0, .ref (B + 146)), (1, .int (zI x))] := hl
  have hF : Fr (fun b9 k9 => (b9 = 146 ∧ k9 = 3) ∨ (b9 = 146 ∧ k9 = 6) ∨ b9 = 148) M M := Fr.rf
  refine lv_iconst (v := zI 0) hx hb dX12_works_0 rfl ?_
  refine lv_istore_n (lv' := [(2, .int (zI 0)), (0, .ref (B + 146)), (1, .int (zI x))]) hx hb dX12_works_1 rfl hl (by decide) rfl (fun ls hl => ?_)
  refine lv_aload_n hx hb dX12_works_2 rfl (lv_at hl 1 rfl) ?_
  refine lv_iconst (v := zI 0) hx hb dX12_works_3 rfl ?_
  refine u_12_6 F w (a := 146) rfl tb_576 dX12_works_4 (fun H locs w => ?_)
  refine lv_iconst (v := zI 1) hx hb dX12_works_7 rfl ?_
  refine lv_istore_n (lv' := [(3, .int (zI 1)), (2, .int (zI 0)), (0, .ref (B + 146)), (1, .int (zI x))]) hx hb dX12_works_8 rfl hl (by decide) rfl (fun ls hl => ?_)
  have lp9 : ∀ (f : Nat) (v3_9 : Int) (v2_9 : Int) (g146_6_9 : Int) (NL9 : Mem), (0 ≤ v3_9 ∧ v3_9 ≤ 1) → ((-2147483648) ≤ v2_9 ∧ v2_9 ≤ 2147483647) → (0 ≤ g146_6_9 ∧ g146_6_9 ≤ 20) → NL9.1 146 6 = zI g146_6_9 → (v3_9 = 0 ∨ g146_6_9 ≤ 19) → IvR NL9 → Fr (fun b9 k9 => (b9 = 146 ∧ k9 = 3) ∨ (b9 = 146 ∧ k9 = 6) ∨ b9 = 148) NL9 M → (Int.toNat (20 - g146_6_9) < f) → ∀ (H : Heap) (locs : List Loc) (ls : Array Slot), Wd D B cy s s.heap NL9 H locs → lv_has ls 4 [(3, .int (zI v3_9)), (2, .int (zI v2_9)), (0, .ref (B + 146)), (1, .int (zI x))] → W p l e (rmm 7 166) s m args below meth c H locs 0 0 Q (F0 m 9 ls []) := by
    intro f
    induction f with
    | zero => intros; omega
    | succ f ih9 =>
      intro v3_9 v2_9 g146_6_9 NL9 iv3_9 iv2_9 ig146_6_9 eg146_6_9 y9_0 hIL9 hFL9 hf9 H locs ls w hl
      refine lv_iload_n hx hb dX12_works_9 rfl (lv_at hl 0 rfl) ?_
      refine z_if_eq (tgt := 80) hx hb (by omega) dX12_works_10 (by decide) (fun c1 => ?_) (fun c1 => ?_)
      · refine lv_iload_n hx hb dX12_works_80 rfl (lv_at hl 1 rfl) ?_
        rw [hQ]
        exact e_i F w hr hlocks ⟨_, rfl, ⟨by omega, by omega⟩, hIL9, hFL9⟩ dX12_works_81
      · refine lv_aload_n hx hb dX12_works_13 rfl (lv_at hl 2 rfl) ?_
        refine lv_iconst (v := zI 0) hx hb dX12_works_14 rfl ?_
        refine u_12_3 F w (a := 146) rfl tb_46 dX12_works_15 (fun H locs w => ?_)
        refine lv_aload_n hx hb dX12_works_18 rfl (lv_at hl 2 rfl) ?_
        refine lv_iload_n hx hb dX12_works_19 rfl (lv_at hl 3 rfl) ?_
        refine k_Vv F w (As := [.int (zI x)]) (rest := []) (a := 146) (kd_lt (a := 146) (show kd 146 = (12, 0, 0) from rfl) (by decide)) (sh_12 rfl _ _) rfl (q_X12_passesOnce (x := x) ⟨by omega, by omega⟩  (IvR.to hIL9 (a := 146) (k := 3) (x := 0) (show ivr 146 3 = ((-2147483648), 2147483647) from rfl) ⟨by omega, by omega⟩ ⟨by decide, by decide, by decide, fun q9 => absurd q9 (by decide)⟩)) gv_X12_159 hv_X12_passesOnce ⟨(Nat.le_of_ble_eq_true rfl), (Nat.le_of_ble_eq_true rfl)⟩ hl.1 rfl (Nat.le_of_ble_eq_true rfl) ⟨Nat.zero_le _, Nat.zero_le _⟩ dX12_works_20 (fun N3 H locs hp w => ?_)
        obtain ⟨hIN3, hFN3⟩ := hp
        have hGN3 := Fr.tr (Fr.to hFL9 (by first | decide | (dsimp only; first | done | decide | omega) | omega)) hFN3 (S := (fun b9 k9 => (b9 = 146 ∧ k9 = 3) ∨ (b9 = 146 ∧ k9 = 6) ∨ b9 = 148)) (fun b k h => by (try dsimp only at h ⊢); rcases h with ⟨rfl, rfl⟩ | rfl <;> first | decide | omega)
        have kn5 : N3.1 146 6 = zI g146_6_9 := (hFN3 146 6 (by first | decide | (dsimp only; first | done | decide | omega) | omega)).trans ((st_ne (Or.inr (by decide))).trans eg146_6_9)
        refine lv_aload_n hx hb dX12_works_23 rfl (lv_at hl 2 rfl) ?_
        refine lv_dup hx hb dX12_works_24 rfl ?_
        refine f_12_6 F w (a := 146) rfl tb_576 dX12_works_25 ?_
        refine r_val (v := zI g146_6_9) (kn5) ?_
        refine lv_iconst (v := zI 1) hx hb dX12_works_28 rfl ?_
        refine z_iadd (z := (g146_6_9 + 1)) hx hb dX12_works_29 (by omega) ?_
        refine u_12_6 F w (a := 146) rfl tb_576 dX12_works_30 (fun H locs w => ?_)
        refine lv_iload_n hx hb dX12_works_33 rfl (lv_at hl 1 rfl) ?_
        refine lv_aload_n hx hb dX12_works_34 rfl (lv_at hl 2 rfl) ?_
        refine f_12_3 F w (a := 146) rfl tb_46 dX12_works_35 ?_
        obtain ⟨z6, bz6, ez6⟩ := IvR.ld (k := 3) (IvR.to hIN3 (a := 146) (k := 6) (x := (g146_6_9 + 1)) (show ivr 146 6 = (0, 20) from rfl) ⟨by omega, by omega⟩ ⟨by decide, by decide, by decide, fun q9 => absurd q9 (by decide)⟩) (show ivr 146 3 = ((-2147483648), 2147483647) from rfl) (show 146 ≤ 146 ∧ 146 < 159 by decide)
        refine r_val ez6 ?_
        obtain ⟨z7, bz7, x0z7, ez7⟩ := add_ex v2_9 z6
        refine lv_iadd hx hb dX12_works_38 ?_
        refine r_val ez7 ?_
        refine lv_istore_n (lv' := [(2, .int (zI z7)), (3, .int (zI v3_9)), (0, .ref (B + 146)), (1, .int (zI x))]) hx hb dX12_works_39 rfl hl (by decide) rfl (fun ls hl => ?_)
        refine lv_aload_n hx hb dX12_works_40 rfl (lv_at hl 2 rfl) ?_
        refine f_12_4 F w (a := 146) rfl tb_532 dX12_works_41 ?_
        refine lv_bipush (v := zI 8) hx hb dX12_works_44 (by decide) ?_
        refine lv_iload_n hx hb dX12_works_46 rfl (lv_at hl 3 rfl) ?_
        refine z_imul (z := (8 * x)) hx hb dX12_works_47 (by omega) ?_
        refine lv_iconst (v := zI 1) hx hb dX12_works_48 rfl ?_
        refine z_iadd (z := ((8 * x) + 1)) hx hb dX12_works_49 (by omega) ?_
        refine g_iald F w (a := 149) rfl (j := (Int.toNat ((8 * x) + 1))) (ix_z (by omega) (by omega)) (by omega) dX12_works_50 ?_
        obtain ⟨z8, bz8, ez8⟩ := IvR.ld (k := (Int.toNat ((8 * x) + 1))) (IvR.to hIN3 (a := 146) (k := 6) (x := (g146_6_9 + 1)) (show ivr 146 6 = (0, 20) from rfl) ⟨by omega, by omega⟩ ⟨by decide, by decide, by decide, fun q9 => absurd q9 (by decide)⟩) (show ivr 149 (Int.toNat ((8 * x) + 1)) = ((-99), 300) from rfl) (show 146 ≤ 149 ∧ 149 < 159 by decide)
        refine r_val ez8 ?_
        refine lv_iconst (v := zI 1) hx hb dX12_works_51 rfl ?_
        refine z_icmp_ne (tgt := 75) hx hb (by omega) (by omega) dX12_works_52 (by decide) (fun c9 => ?_) (fun c9 => ?_)
        · refine lv_iconst (v := zI 0) hx hb dX12_works_75 rfl ?_
          refine lv_istore_n (lv' := [(3, .int (zI 0)), (2, .int (zI z7)), (0, .ref (B + 146)), (1, .int (zI x))]) hx hb dX12_works_76 rfl hl (by decide) rfl (fun ls hl => ?_)
          refine lv_goto (tgt := 9) hx hb dX12_works_77 (by decide) ?_
          exact ih9 0 z7 (g146_6_9 + 1) (st N3 146 6 (zI (g146_6_9 + 1))) (by omega) (by omega) (by omega) (st_at) (by omega) (IvR.to hIN3 (a := 146) (k := 6) (x := (g146_6_9 + 1)) (show ivr 146 6 = (0, 20) from rfl) ⟨by omega, by omega⟩ ⟨by decide, by decide, by decide, fun q9 => absurd q9 (by decide)⟩) (Fr.to hGN3 (by first | decide | (dsimp only; first | done | decide | omega) | omega)) (by omega) _ _ _ w (lv_sub hl [0, 1, 2, 3] rfl)
        · refine lv_aload_n hx hb dX12_works_55 rfl (lv_at hl 2 rfl) ?_
          refine f_12_3 F w (a := 146) rfl tb_46 dX12_works_56 ?_
          obtain ⟨z10, bz10, ez10⟩ := IvR.ld (k := 3) (IvR.to hIN3 (a := 146) (k := 6) (x := (g146_6_9 + 1)) (show ivr 146 6 = (0, 20) from rfl) ⟨by omega, by omega⟩ ⟨by decide, by decide, by decide, fun q9 => absurd q9 (by decide)⟩) (show ivr 146 3 = ((-2147483648), 2147483647) from rfl) (show 146 ≤ 146 ∧ 146 < 159 by decide)
          refine r_val ez10 ?_
          refine z_if_le (tgt := 75) hx hb (by omega) dX12_works_59 (by decide) (fun c11 => ?_) (fun c11 => ?_)
          · refine lv_iconst (v := zI 0) hx hb dX12_works_75 rfl ?_
            refine lv_istore_n (lv' := [(3, .int (zI 0)), (2, .int (zI z7)), (0, .ref (B + 146)), (1, .int (zI x))]) hx hb dX12_works_76 rfl hl (by decide) rfl (fun ls hl => ?_)
            refine lv_goto (tgt := 9) hx hb dX12_works_77 (by decide) ?_
            exact ih9 0 z7 (g146_6_9 + 1) (st N3 146 6 (zI (g146_6_9 + 1))) (by omega) (by omega) (by omega) (st_at) (by omega) (IvR.to hIN3 (a := 146) (k := 6) (x := (g146_6_9 + 1)) (show ivr 146 6 = (0, 20) from rfl) ⟨by omega, by omega⟩ ⟨by decide, by decide, by decide, fun q9 => absurd q9 (by decide)⟩) (Fr.to hGN3 (by first | decide | (dsimp only; first | done | decide | omega) | omega)) (by omega) _ _ _ w (lv_sub hl [0, 1, 2, 3] rfl)
          · refine lv_aload_n hx hb dX12_works_62 rfl (lv_at hl 2 rfl) ?_
            refine f_12_6 F w (a := 146) rfl tb_576 dX12_works_63 ?_
            refine r_val (v := zI (g146_6_9 + 1)) (st_at) ?_
            refine lv_bipush (v := zI 20) hx hb dX12_works_66 (by decide) ?_
            refine z_icmp_ge (tgt := 75) hx hb (by omega) (by omega) dX12_works_68 (by decide) (fun c12 => ?_) (fun c12 => ?_)
            · refine lv_iconst (v := zI 0) hx hb dX12_works_75 rfl ?_
              refine lv_istore_n (lv' := [(3, .int (zI 0)), (2, .int (zI z7)), (0, .ref (B + 146)), (1, .int (zI x))]) hx hb dX12_works_76 rfl hl (by decide) rfl (fun ls hl => ?_)
              refine lv_goto (tgt := 9) hx hb dX12_works_77 (by decide) ?_
              exact ih9 0 z7 (g146_6_9 + 1) (st N3 146 6 (zI (g146_6_9 + 1))) (by omega) (by omega) (by omega) (st_at) (by omega) (IvR.to hIN3 (a := 146) (k := 6) (x := (g146_6_9 + 1)) (show ivr 146 6 = (0, 20) from rfl) ⟨by omega, by omega⟩ ⟨by decide, by decide, by decide, fun q9 => absurd q9 (by decide)⟩) (Fr.to hGN3 (by first | decide | (dsimp only; first | done | decide | omega) | omega)) (by omega) _ _ _ w (lv_sub hl [0, 1, 2, 3] rfl)
            · refine lv_iconst (v := zI 1) hx hb dX12_works_71 rfl ?_
              refine lv_goto (tgt := 76) hx hb dX12_works_72 (by decide) ?_
              refine lv_istore_n (lv' := [(3, .int (zI 1)), (2, .int (zI z7)), (0, .ref (B + 146)), (1, .int (zI x))]) hx hb dX12_works_76 rfl hl (by decide) rfl (fun ls hl => ?_)
              refine lv_goto (tgt := 9) hx hb dX12_works_77 (by decide) ?_
              exact ih9 1 z7 (g146_6_9 + 1) (st N3 146 6 (zI (g146_6_9 + 1))) (by omega) (by omega) (by omega) (st_at) (by omega) (IvR.to hIN3 (a := 146) (k := 6) (x := (g146_6_9 + 1)) (show ivr 146 6 = (0, 20) from rfl) ⟨by omega, by omega⟩ ⟨by decide, by decide, by decide, fun q9 => absurd q9 (by decide)⟩) (Fr.to hGN3 (by first | decide | (dsimp only; first | done | decide | omega) | omega)) (by omega) _ _ _ w (lv_sub hl [0, 1, 2, 3] rfl)
  exact lp9 _ 1 0 0 (st M 146 6 (zI 0)) (by omega) (by omega) (by omega) (st_at) (by omega) (IvR.to hI (a := 146) (k := 6) (x := 0) (show ivr 146 6 = (0, 20) from rfl) ⟨by omega, by omega⟩ ⟨by decide, by decide, by decide, fun q9 => absurd q9 (by decide)⟩) (Fr.to hF (by first | decide | (dsimp only; first | done | decide | omega) | omega)) (Nat.lt_succ_self _) _ _ _ w (lv_sub hl [0, 1, 2, 3] rfl)
theorem dX12_derives_0 : decode cX12_derives 0 = .ok (.aload_n 0, 1) := wdX12_derives_0
theorem dX12_derives_1 : decode cX12_derives 1 = .ok (.getfield 17, 3) := wdX12_derives_1
theorem dX12_derives_4 : decode cX12_derives 4 = .ok (.aload_n 0, 1) := wdX12_derives_4
theorem dX12_derives_5 : decode cX12_derives 5 = .ok (.getfield 13, 3) := wdX12_derives_5
theorem tb_580 : Cond.fieldLink "ToneLinesModel" 13 "ToneLinesModel" "told" "[I" ∈ TB := wtb_179
theorem dX12_derives_8 : decode cX12_derives 8 = .ok (.invokestatic 162, 3) := wdX12_derives_8
theorem tk_X12_copy : Cond.code yX12_copy cX12_copy 3 none ∈ TB := wtk_X12_copy
theorem gc_X12_copy : GoodIn TB (cw yX12_copy cX12_copy 3 none) := goodIn_c2 tk_X12_copy
theorem tb_581 : Cond.methodLink "ToneLinesModel" 162 yX12_copy ∈ TB := wtb_180
theorem tb_582 : Cond.static yX12_copy ∈ TB := wtb_181
theorem gs_X12_162 : GoodIn TB (va_wsS RX12 162 yX12_copy (cw yX12_copy cX12_copy 3 none)) := goodIn_3 tb_581 tb_582 tb_38 gc_X12_copy
theorem hs_X12_copy : yX12_copy.cls ≠ "java/lang/invoke/MethodHandle" ∧ yX12_copy.cls ≠ "java/lang/invoke/VarHandle" ∧ (parseMethodDescriptor yX12_copy.desc).map (fun d => d.parameters.length) = some 2 := whs_X12_copy
theorem dX12_derives_11 : decode cX12_derives 11 = .ok (.iconst 0, 1) := wdX12_derives_11
theorem dX12_derives_12 : decode cX12_derives 12 = .ok (.istore_n 2, 1) := wdX12_derives_12
theorem dX12_derives_13 : decode cX12_derives 13 = .ok (.iconst 0, 1) := wdX12_derives_13
theorem dX12_derives_14 : decode cX12_derives 14 = .ok (.istore_n 3, 1) := wdX12_derives_14
theorem dX12_derives_15 : decode cX12_derives 15 = .ok (.iload_n 3, 1) := wdX12_derives_15
theorem dX12_derives_16 : decode cX12_derives 16 = .ok (.iload_n 1, 1) := wdX12_derives_16
theorem dX12_derives_17 : decode cX12_derives 17 = .ok (.if_icmp .ge 17, 3) := wdX12_derives_17
theorem dX12_derives_34 : decode cX12_derives 34 = .ok (.iload_n 2, 1) := wdX12_derives_34
theorem dX12_derives_35 : decode cX12_derives 35 = .ok (.ireturn, 1) := wdX12_derives_35
theorem dX12_derives_20 : decode cX12_derives 20 = .ok (.iload_n 2, 1) := wdX12_derives_20
theorem dX12_derives_21 : decode cX12_derives 21 = .ok (.aload_n 0, 1) := wdX12_derives_21
theorem dX12_derives_22 : decode cX12_derives 22 = .ok (.iload_n 3, 1) := wdX12_derives_22
theorem dX12_derives_23 : decode cX12_derives 23 = .ok (.invokevirtual 166, 3) := wdX12_derives_23
theorem tk_X12_works : Cond.code yX12_works cX12_works 4 (some .int) ∈ TB := wtk_X12_works
theorem gc_X12_works : GoodIn TB (cw yX12_works cX12_works 4 (some .int)) := goodIn_c2 tk_X12_works
theorem tb_583 : Cond.methodLink "ToneLinesModel" 166 yX12_works ∈ TB := wtb_176
theorem tb_584 : Cond.instanceMethod yX12_works ∈ TB := wtb_177
theorem tb_585 : Cond.selects "ToneLinesModel" yX12_works yX12_works ∈ TB := wtb_178
theorem gv_X12_166 : GoodIn TB (wsV RX12 166 RX12 yX12_works (cw yX12_works cX12_works 4 (some .int))) := goodIn_4 tb_583 tb_584 tb_585 tb_38 gc_X12_works
theorem hv_X12_works : yX12_works.cls = RX12 ∧ yX12_works.cls ≠ "java/lang/invoke/MethodHandle" ∧ yX12_works.cls ≠ "java/lang/invoke/VarHandle" ∧ (parseMethodDescriptor yX12_works.desc).map (fun d => d.parameters.length) = some 1 := whv_X12_works
theorem dX12_derives_26 : decode cX12_derives 26 = .ok (.iadd, 1) := wdX12_derives_26
theorem dX12_derives_27 : decode cX12_derives 27 = .ok (.istore_n 2, 1) := wdX12_derives_27
theorem dX12_derives_28 : decode cX12_derives 28 = .ok (.iinc 3 1, 3) := wdX12_derives_28
theorem dX12_derives_31 : decode cX12_derives 31 = .ok (.goto (-16), 3) := wdX12_derives_31
set_option maxRecDepth 4000 in
theorem q_X12_derives {l : Launch} {D : va_G} {B : Nat} {cy : Nat → ClassId} {M : Mem} {x : Int} (hx : 0 ≤ x ∧ x ≤ 8) (hI : IvR M) : Ci l D B cy yX12_derives cX12_derives 4 (some .int) 8 189 [.ref (B + 146), .int (zI x)] M (fun r M1 => ∃ z : Int, r = zI z ∧ ((-2147483648) ≤ z ∧ z ≤ 2147483647) ∧ IvR M1 ∧ Fr (fun b9 k9 => (b9 = 146 ∧ k9 = 3) ∨ (b9 = 146 ∧ k9 = 6) ∨ b9 = 148) M1 M) := by
  refine s_anyQ (by decide) (Nat.le_of_ble_eq_true rfl) ?_
  intro p e s m args below meth c ls Q F hr hlocks hQ w hl
  have F : CallFix p m c cX12_derives 4 s args TB RX12 := F
  have hx := F.1
  have hb := F.2.1
  have hl : lv_has ls 4 [(0, .ref (B + 146)), (1, .int (zI x))] := hl
  have hF : Fr (fun b9 k9 => (b9 = 146 ∧ k9 = 3) ∨ (b9 = 146 ∧ k9 = 6) ∨ b9 = 148) M M := Fr.rf
  refine lv_aload_n hx hb dX12_derives_0 rfl (lv_at hl 0 rfl) ?_
  refine f_12_2 F w (a := 146) rfl tb_45 dX12_derives_1 ?_
  refine lv_aload_n hx hb dX12_derives_4 rfl (lv_at hl 0 rfl) ?_
  refine f_12_1 F w (a := 146) rfl tb_580 dX12_derives_5 ?_
  obtain ⟨z1, bz1, ez1⟩ := IvR.ld (k := 0) hI (show ivr 147 0 = (0, 12) from rfl) (show 146 ≤ 147 ∧ 147 < 159 by decide)
  refine k_Sv F w (As := [.ref (B + 148), .ref (B + 147)]) (rest := []) (q_copy_148_147 (nn := z1) (ez1) ⟨by omega, by omega⟩  hI) gs_X12_162 hs_X12_copy ⟨(Nat.le_of_ble_eq_true rfl), (Nat.le_of_ble_eq_true rfl)⟩ hl.1 rfl (Nat.le_of_ble_eq_true rfl) ⟨Nat.zero_le _, Nat.zero_le _⟩ dX12_derives_8 (fun N3 H locs hp w => ?_)
  obtain ⟨yN3_148_0, hIN3, hFN3⟩ := hp
  have hGN3 := Fr.tr hF hFN3 (S := (fun b9 k9 => (b9 = 146 ∧ k9 = 3) ∨ (b9 = 146 ∧ k9 = 6) ∨ b9 = 148)) (fun b k h => by (try dsimp only at h ⊢); rcases h with rfl <;> first | decide | omega)
  have kn5 : N3.1 147 0 = zI z1 := (hFN3 147 0 (by first | decide | (dsimp only; first | done | decide | omega) | omega)).trans (ez1)
  refine lv_iconst (v := zI 0) hx hb dX12_derives_11 rfl ?_
  refine lv_istore_n (lv' := [(2, .int (zI 0)), (0, .ref (B + 146)), (1, .int (zI x))]) hx hb dX12_derives_12 rfl hl (by decide) rfl (fun ls hl => ?_)
  refine lv_iconst (v := zI 0) hx hb dX12_derives_13 rfl ?_
  refine lv_istore_n (lv' := [(3, .int (zI 0)), (2, .int (zI 0)), (0, .ref (B + 146)), (1, .int (zI x))]) hx hb dX12_derives_14 rfl hl (by decide) rfl (fun ls hl => ?_)
  have lp15 : ∀ (f : Nat) (v3_15 : Int) (v2_15 : Int)  (NL15 : Mem), (0 ≤ v3_15 ∧ v3_15 ≤ 8) → ((-2147483648) ≤ v2_15 ∧ v2_15 ≤ 2147483647) → NL15.1 147 0 = zI z1 → IvR NL15 → Fr (fun b9 k9 => (b9 = 146 ∧ k9 = 3) ∨ (b9 = 146 ∧ k9 = 6) ∨ b9 = 148) NL15 M → (Int.toNat (8 - v3_15) < f) → ∀ (H : Heap) (locs : List Loc) (ls : Array Slot), Wd D B cy s s.heap NL15 H locs → lv_has ls 4 [(3, .int (zI v3_15)), (2, .int (zI v2_15)), (0, .ref (B + 146)), (1, .int (zI x))] → W p l e (rmm 8 189) s m args below meth c H locs 0 0 Q (F0 m 15 ls []) := by
    intro f
    induction f with
    | zero => intros; omega
    | succ f ih15 =>
      intro v3_15 v2_15  NL15 iv3_15 iv2_15 eg147_0_15 hIL15 hFL15 hf15 H locs ls w hl
      refine lv_iload_n hx hb dX12_derives_15 rfl (lv_at hl 0 rfl) ?_
      refine lv_iload_n hx hb dX12_derives_16 rfl (lv_at hl 3 rfl) ?_
      refine z_icmp_ge (tgt := 34) hx hb (by omega) (by omega) dX12_derives_17 (by decide) (fun c6 => ?_) (fun c6 => ?_)
      · refine lv_iload_n hx hb dX12_derives_34 rfl (lv_at hl 1 rfl) ?_
        rw [hQ]
        exact e_i F w hr hlocks ⟨_, rfl, ⟨by omega, by omega⟩, hIL15, hFL15⟩ dX12_derives_35
      · refine lv_iload_n hx hb dX12_derives_20 rfl (lv_at hl 1 rfl) ?_
        refine lv_aload_n hx hb dX12_derives_21 rfl (lv_at hl 2 rfl) ?_
        refine lv_iload_n hx hb dX12_derives_22 rfl (lv_at hl 0 rfl) ?_
        refine k_Vi F w (As := [.int (zI v3_15)]) (rest := [.int (zI v2_15)]) (a := 146) (kd_lt (a := 146) (show kd 146 = (12, 0, 0) from rfl) (by decide)) (sh_12 rfl _ _) rfl (q_X12_works (x := v3_15) ⟨by omega, by omega⟩  hIL15) gv_X12_166 hv_X12_works ⟨(Nat.le_of_ble_eq_true rfl), (Nat.le_of_ble_eq_true rfl)⟩ hl.1 rfl (Nat.le_of_ble_eq_true rfl) ⟨Nat.zero_le _, Nat.zero_le _⟩ dX12_derives_23 (fun r7 N8 H locs hp w => ?_)
        obtain ⟨z9, rfl, bz9, hIN8, hFN8⟩ := hp
        have hGN8 := Fr.tr hFL15 hFN8 (S := (fun b9 k9 => (b9 = 146 ∧ k9 = 3) ∨ (b9 = 146 ∧ k9 = 6) ∨ b9 = 148)) (fun b k h => by (try dsimp only at h ⊢); rcases h with ⟨rfl, rfl⟩ | ⟨rfl, rfl⟩ | rfl <;> first | decide | omega)
        have kn10 : N8.1 147 0 = zI z1 := (hFN8 147 0 (by first | decide | (dsimp only; first | done | decide | omega) | omega)).trans (eg147_0_15)
        obtain ⟨z11, bz11, x0z11, ez11⟩ := add_ex v2_15 z9
        refine lv_iadd hx hb dX12_derives_26 ?_
        refine r_val ez11 ?_
        refine lv_istore_n (lv' := [(2, .int (zI z11)), (3, .int (zI v3_15)), (0, .ref (B + 146)), (1, .int (zI x))]) hx hb dX12_derives_27 rfl hl (by decide) rfl (fun ls hl => ?_)
        refine z_iinc (v := (v3_15 + 1)) (lv' := [(3, .int (zI (v3_15 + 1))), (2, .int (zI z11)), (0, .ref (B + 146)), (1, .int (zI x))]) hx hb dX12_derives_28 hl (k := 1) rfl (by omega) (by decide) rfl (fun ls hl => ?_)
        refine lv_goto (tgt := 15) hx hb dX12_derives_31 (by decide) ?_
        exact ih15 (v3_15 + 1) z11 N8 (by omega) (by omega)  (kn10)  hIN8 hGN8 (by omega) _ _ _ w (lv_sub hl [0, 1, 2, 3] rfl)
  exact lp15 _ 0 0 N3 (by omega) (by omega) (kn5) hIN3 hGN3 (Nat.lt_succ_self _) _ _ _ w (lv_sub hl [0, 1, 2, 3] rfl)
