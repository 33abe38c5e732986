theorem dX12_here_0 : decode cX12_here 0 = .ok (.aload_n 0, 1) := rdX12_here_0
theorem dX12_here_1 : decode cX12_here 1 = .ok (.getfield 172, 3) := rdX12_here_1
theorem tb_586 : Cond.fieldLink "ToneLinesModel" 172 "ToneLinesModel" "at" "I" ∈ TB := rtb_120
theorem dX12_here_4 : decode cX12_here 4 = .ok (.aload_n 0, 1) := rdX12_here_4
theorem dX12_here_5 : decode cX12_here 5 = .ok (.getfield 169, 3) := rdX12_here_5
theorem tb_587 : Cond.fieldLink "ToneLinesModel" 169 "ToneLinesModel" "taped" "I" ∈ TB := rtb_121
theorem dX12_here_8 : decode cX12_here 8 = .ok (.if_icmp .ge 15, 3) := rdX12_here_8
theorem dX12_here_23 : decode cX12_here 23 = .ok (.iconst (-1), 1) := rdX12_here_23
theorem dX12_here_24 : decode cX12_here 24 = .ok (.ireturn, 1) := rdX12_here_24
theorem dX12_here_11 : decode cX12_here 11 = .ok (.aload_n 0, 1) := rdX12_here_11
theorem dX12_here_12 : decode cX12_here 12 = .ok (.getfield 23, 3) := rdX12_here_12
theorem tb_588 : Cond.fieldLink "ToneLinesModel" 23 "ToneLinesModel" "tape" "[I" ∈ TB := rtb_122
theorem dX12_here_15 : decode cX12_here 15 = .ok (.aload_n 0, 1) := rdX12_here_15
theorem dX12_here_16 : decode cX12_here 16 = .ok (.getfield 172, 3) := rdX12_here_16
theorem dX12_here_19 : decode cX12_here 19 = .ok (.iaload, 1) := rdX12_here_19
theorem dX12_here_20 : decode cX12_here 20 = .ok (.goto 4, 3) := rdX12_here_20
set_option maxRecDepth 4000 in
theorem q_X12_here {l : Launch} {D : va_G} {B : Nat} {cy : Nat → ClassId} {M : Mem} {ai : Int} (hgai : M.1 146 9 = zI ai) (hai : 0 ≤ ai ∧ ai ≤ 300) {td : Int} (hgtd : M.1 146 8 = zI td) (htd : 0 ≤ td ∧ td ≤ 300) {tv : Int} (hgtv : M.1 150 (Int.toNat ai) = zI tv) (htv : 0 ≤ tv ∧ tv ≤ 255) (hI : IvR M) : Ci l D B cy yX12_here cX12_here 1 (some .int) 0 0 [.ref (B + 146)] M (fun r M1 => ∃ z : Int, r = zI z ∧ ((-1) ≤ z ∧ z ≤ 255) ∧ ((z = -1 ∧ td ≤ ai) ∨ (ai < td ∧ z = tv)) ∧ M1 = M) := by
  refine s_anyQ (by decide) (Nat.le_of_ble_eq_true rfl) ?_
  intro p e s m args below meth c ls Q F hr hlocks hQ w hl
  have F : CallFix p m c cX12_here 1 s args TB RX12 := F
  have hx := F.1
  have hb := F.2.1
  have hl : lv_has ls 1 [(0, .ref (B + 146))] := hl
  refine lv_aload_n hx hb dX12_here_0 rfl (lv_at hl 0 rfl) ?_
  refine f_12_9 F w (a := 146) rfl tb_586 dX12_here_1 ?_
  refine r_val (v := zI ai) (hgai) ?_
  refine lv_aload_n hx hb dX12_here_4 rfl (lv_at hl 0 rfl) ?_
  refine f_12_8 F w (a := 146) rfl tb_587 dX12_here_5 ?_
  refine r_val (v := zI td) (hgtd) ?_
  refine z_icmp_ge (tgt := 23) hx hb (by omega) (by omega) dX12_here_8 (by decide) (fun c1 => ?_) (fun c1 => ?_)
  · refine lv_iconst (v := zI (-1)) hx hb dX12_here_23 rfl ?_
    rw [hQ]
    exact e_i F w hr hlocks ⟨_, rfl, ⟨by omega, by omega⟩, (by omega), rfl⟩ dX12_here_24
  · refine lv_aload_n hx hb dX12_here_11 rfl (lv_at hl 0 rfl) ?_
    refine f_12_7 F w (a := 146) rfl tb_588 dX12_here_12 ?_
    refine lv_aload_n hx hb dX12_here_15 rfl (lv_at hl 0 rfl) ?_
    refine f_12_9 F w (a := 146) rfl tb_586 dX12_here_16 ?_
    refine r_val (v := zI ai) (hgai) ?_
    refine g_iald F w (a := 150) rfl (j := (Int.toNat ai)) (ix_z (by omega) (by omega)) (by omega) dX12_here_19 ?_
    refine r_val (v := zI tv) (hgtv) ?_
    refine lv_goto (tgt := 24) hx hb dX12_here_20 (by decide) ?_
    rw [hQ]
    exact e_i F w hr hlocks ⟨_, rfl, ⟨by omega, by omega⟩, (by omega), rfl⟩ dX12_here_24
theorem dX12_blanks_0 : decode cX12_blanks 0 = .ok (.aload_n 0, 1) := rdX12_blanks_0
theorem dX12_blanks_1 : decode cX12_blanks 1 = .ok (.invokevirtual 175, 3) := rdX12_blanks_1
theorem tk_X12_here : Cond.code yX12_here cX12_here 1 (some .int) ∈ TB := rtk_X12_here
theorem gc_X12_here : GoodIn TB (cw yX12_here cX12_here 1 (some .int)) := goodIn_c2 tk_X12_here
theorem tb_589 : Cond.methodLink "ToneLinesModel" 175 yX12_here ∈ TB := rtb_123
theorem tb_590 : Cond.instanceMethod yX12_here ∈ TB := rtb_124
theorem tb_591 : Cond.selects "ToneLinesModel" yX12_here yX12_here ∈ TB := rtb_125
theorem gv_X12_175 : GoodIn TB (wsV RX12 175 RX12 yX12_here (cw yX12_here cX12_here 1 (some .int))) := goodIn_4 tb_589 tb_590 tb_591 tb_38 gc_X12_here
theorem hv_X12_here : yX12_here.cls = RX12 ∧ yX12_here.cls ≠ "java/lang/invoke/MethodHandle" ∧ yX12_here.cls ≠ "java/lang/invoke/VarHandle" ∧ (parseMethodDescriptor yX12_here.desc).map (fun d => d.parameters.length) = some 0 := rhv_X12_here
theorem dX12_blanks_4 : decode cX12_blanks 4 = .ok (.bipush 32, 2) := rdX12_blanks_4
theorem dX12_blanks_6 : decode cX12_blanks 6 = .ok (.if_icmp .ne 16, 3) := rdX12_blanks_6
theorem dX12_blanks_22 : decode cX12_blanks 22 = .ok (.return_, 1) := rdX12_blanks_22
theorem dX12_blanks_9 : decode cX12_blanks 9 = .ok (.aload_n 0, 1) := rdX12_blanks_9
theorem dX12_blanks_10 : decode cX12_blanks 10 = .ok (.dup, 1) := rdX12_blanks_10
theorem dX12_blanks_11 : decode cX12_blanks 11 = .ok (.getfield 172, 3) := rdX12_blanks_11
theorem dX12_blanks_14 : decode cX12_blanks 14 = .ok (.iconst 1, 1) := rdX12_blanks_14
theorem dX12_blanks_15 : decode cX12_blanks 15 = .ok (.iadd, 1) := rdX12_blanks_15
theorem dX12_blanks_16 : decode cX12_blanks 16 = .ok (.putfield 172, 3) := rdX12_blanks_16
theorem dX12_blanks_19 : decode cX12_blanks 19 = .ok (.goto (-19), 3) := rdX12_blanks_19
set_option maxRecDepth 4000 in
theorem q_X12_blanks {l : Launch} {D : va_G} {B : Nat} {cy : Nat → ClassId} {M : Mem} {ai : Int} (hgai : M.1 146 9 = zI ai) (hai : 0 ≤ ai ∧ ai ≤ 300) (hI : IvR M) : Cv l D B cy yX12_blanks cX12_blanks 1 1 20 [.ref (B + 146)] M (fun M1 => (∃ ai2 : Int, M1.1 146 9 = zI ai2 ∧ ((0 ≤ ai2 ∧ ai2 ≤ 300) ∧ ai ≤ ai2)) ∧ IvR M1 ∧ Fr (fun b9 k9 => (b9 = 146 ∧ k9 = 9)) M1 M) := by
  refine s_anyQ (by decide) (Nat.le_of_ble_eq_true rfl) ?_
  intro p e s m args below meth c ls Q F hr hlocks hQ w hl
  have F : CallFix p m c cX12_blanks 1 s args TB RX12 := F
  have hx := F.1
  have hb := F.2.1
  have hl : lv_has ls 1 [(0, .ref (B + 146))] := hl
  have hF : Fr (fun b9 k9 => (b9 = 146 ∧ k9 = 9)) M M := Fr.rf
  have lp0 : ∀ (f : Nat)  (g146_9_0 : Int) (NL0 : Mem), (0 ≤ g146_9_0 ∧ g146_9_0 ≤ 300) → NL0.1 146 9 = zI g146_9_0 → (ai ≤ g146_9_0) → IvR NL0 → Fr (fun b9 k9 => (b9 = 146 ∧ k9 = 9)) NL0 M → (Int.toNat (300 - g146_9_0) < f) → ∀ (H : Heap) (locs : List Loc) (ls : Array Slot), Wd D B cy s s.heap NL0 H locs → lv_has ls 1 [(0, .ref (B + 146))] → W p l e (rmm 1 20) s m args below meth c H locs 0 0 Q (F0 m 0 ls []) := by
    intro f
    induction f with
    | zero => intros; omega
    | succ f ih0 =>
      intro  g146_9_0 NL0 ig146_9_0 eg146_9_0 y0_0 hIL0 hFL0 hf0 H locs ls w hl
      refine lv_aload_n hx hb dX12_blanks_0 rfl (lv_at hl 0 rfl) ?_
      obtain ⟨z1, bz1, ez1⟩ := IvR.ld (k := 8) hIL0 (show ivr 146 8 = (0, 300) from rfl) (show 146 ≤ 146 ∧ 146 < 159 by decide)
      obtain ⟨z2, bz2, ez2⟩ := IvR.ld (k := (Int.toNat g146_9_0)) hIL0 (show ivr 150 (Int.toNat g146_9_0) = (0, 255) from rfl) (show 146 ≤ 150 ∧ 150 < 159 by decide)
      refine k_Vi F w (As := []) (rest := []) (a := 146) (kd_lt (a := 146) (show kd 146 = (12, 0, 0) from rfl) (by decide)) (sh_12 rfl _ _) rfl (q_X12_here (ai := g146_9_0) (eg146_9_0) ⟨by omega, by omega⟩ (td := z1) (ez1) ⟨by omega, by omega⟩ (tv := z2) (ez2) ⟨by omega, by omega⟩  hIL0) gv_X12_175 hv_X12_here ⟨(Nat.le_of_ble_eq_true rfl), (Nat.le_of_ble_eq_true rfl)⟩ hl.1 rfl (Nat.le_of_ble_eq_true rfl) ⟨Nat.zero_le _, Nat.zero_le _⟩ dX12_blanks_1 (fun r3 N4 H locs hp w => ?_)
      obtain ⟨z5, rfl, bz5, xz5, hMN4⟩ := hp
      rw [hMN4] at w
      refine lv_bipush (v := zI 32) hx hb dX12_blanks_4 (by decide) ?_
      refine z_icmp_ne (tgt := 22) hx hb (by omega) (by omega) dX12_blanks_6 (by decide) (fun c6 => ?_) (fun c6 => ?_)
      · rw [hQ]
        exact e_v F w hr hlocks ⟨⟨g146_9_0, (eg146_9_0), ⟨by omega, by omega⟩, (by omega)⟩, hIL0, hFL0⟩ dX12_blanks_22
      · refine lv_aload_n hx hb dX12_blanks_9 rfl (lv_at hl 0 rfl) ?_
        refine lv_dup hx hb dX12_blanks_10 rfl ?_
        refine f_12_9 F w (a := 146) rfl tb_586 dX12_blanks_11 ?_
        refine r_val (v := zI g146_9_0) (eg146_9_0) ?_
        refine lv_iconst (v := zI 1) hx hb dX12_blanks_14 rfl ?_
        refine z_iadd (z := (g146_9_0 + 1)) hx hb dX12_blanks_15 (by omega) ?_
        refine u_12_9 F w (a := 146) rfl tb_586 dX12_blanks_16 (fun H locs w => ?_)
        refine lv_goto (tgt := 0) hx hb dX12_blanks_19 (by decide) ?_
        exact ih0 (g146_9_0 + 1) (st NL0 146 9 (zI (g146_9_0 + 1)))  (by omega) (st_at) (by omega) (IvR.to hIL0 (a := 146) (k := 9) (x := (g146_9_0 + 1)) (show ivr 146 9 = (0, 300) from rfl) ⟨by omega, by omega⟩ ⟨by decide, by decide, by decide, fun q9 => absurd q9 (by decide)⟩) (Fr.to hFL0 (by first | decide | (dsimp only; first | done | decide | omega) | omega)) (by omega) _ _ _ w (lv_sub hl [0] rfl)
  exact lp0 _ ai M (by omega) (hgai) (by omega) hI hF (Nat.lt_succ_self _) _ _ _ w (lv_sub hl [0] rfl)
theorem dX12_isDigit_0 : decode cX12_isDigit 0 = .ok (.iload_n 0, 1) := rdX12_isDigit_0
theorem dX12_isDigit_1 : decode cX12_isDigit 1 = .ok (.bipush 48, 2) := rdX12_isDigit_1
theorem dX12_isDigit_3 : decode cX12_isDigit 3 = .ok (.bipush 57, 2) := rdX12_isDigit_3
theorem dX12_isDigit_5 : decode cX12_isDigit 5 = .ok (.invokestatic 55, 3) := rdX12_isDigit_5
theorem dX12_isDigit_8 : decode cX12_isDigit 8 = .ok (.ireturn, 1) := rdX12_isDigit_8
set_option maxRecDepth 4000 in
theorem q_X12_isDigit {l : Launch} {D : va_G} {B : Nat} {cy : Nat → ClassId} {M : Mem} {x : Int} (hx : (-2147483648) ≤ x ∧ x ≤ 2147483647) (hI : IvR M) : Ci l D B cy yX12_isDigit cX12_isDigit 1 (some .boolean) 1 22 [.int (zI x)] M (fun r M1 => ∃ z : Int, r = zI z ∧ (0 ≤ z ∧ z ≤ 1) ∧ ((z = 0 ∨ (48 ≤ x ∧ x ≤ 57))) ∧ M1 = M) := by
  refine s_anyQ (by decide) (Nat.le_of_ble_eq_true rfl) ?_
  intro p e s m args below meth c ls Q F hr hlocks hQ w hl
  have F : CallFix p m c cX12_isDigit 1 s args TB RX12 := F
  have hx := F.1
  have hb := F.2.1
  have hl : lv_has ls 1 [(0, .int (zI x))] := hl
  refine lv_iload_n hx hb dX12_isDigit_0 rfl (lv_at hl 0 rfl) ?_
  refine lv_bipush (v := zI 48) hx hb dX12_isDigit_1 (by decide) ?_
  refine lv_bipush (v := zI 57) hx hb dX12_isDigit_3 (by decide) ?_
  refine k_Si F w (As := [.int (zI x), .int (zI 48), .int (zI 57)]) (rest := []) (q_X12_in (x := x) ⟨by omega, by omega⟩ (x1 := 48) ⟨by omega, by omega⟩ (x2 := 57) ⟨by omega, by omega⟩  hI) gs_X12_55 hs_X12_in ⟨(Nat.le_of_ble_eq_true rfl), (Nat.le_of_ble_eq_true rfl)⟩ hl.1 rfl (Nat.le_of_ble_eq_true rfl) ⟨Nat.zero_le _, Nat.zero_le _⟩ dX12_isDigit_5 (fun r1 N2 H locs hp w => ?_)
  obtain ⟨z3, rfl, bz3, xz3, hMN2⟩ := hp
  rw [hMN2] at w
  rw [hQ]
  exact e_z F w hr hlocks (nar_z (by omega)) ⟨_, rfl, ⟨by omega, by omega⟩, (by omega), rfl⟩ dX12_isDigit_8
theorem dX12_readsTones_0 : decode cX12_readsTones 0 = .ok (.aload_n 0, 1) := udX12_readsTones_0
theorem dX12_readsTones_1 : decode cX12_readsTones 1 = .ok (.invokevirtual 179, 3) := udX12_readsTones_1
theorem tk_X12_blanks : Cond.code yX12_blanks cX12_blanks 1 none ∈ TB := rtk_X12_blanks
theorem gc_X12_blanks : GoodIn TB (cw yX12_blanks cX12_blanks 1 none) := goodIn_c2 tk_X12_blanks
theorem tb_592 : Cond.methodLink "ToneLinesModel" 179 yX12_blanks ∈ TB := rtb_128
theorem tb_593 : Cond.instanceMethod yX12_blanks ∈ TB := rtb_129
theorem tb_594 : Cond.selects "ToneLinesModel" yX12_blanks yX12_blanks ∈ TB := rtb_130
theorem gv_X12_179 : GoodIn TB (wsV RX12 179 RX12 yX12_blanks (cw yX12_blanks cX12_blanks 1 none)) := goodIn_4 tb_592 tb_593 tb_594 tb_38 gc_X12_blanks
theorem hv_X12_blanks : yX12_blanks.cls = RX12 ∧ yX12_blanks.cls ≠ "java/lang/invoke/MethodHandle" ∧ yX12_blanks.cls ≠ "java/lang/invoke/VarHandle" ∧ (parseMethodDescriptor yX12_blanks.desc).map (fun d => d.parameters.length) = some 0 := rhv_X12_blanks
theorem dX12_readsTones_4 : decode cX12_readsTones 4 = .ok (.aload_n 0, 1) := udX12_readsTones_4
theorem dX12_readsTones_5 : decode cX12_readsTones 5 = .ok (.invokevirtual 175, 3) := udX12_readsTones_5
theorem dX12_readsTones_8 : decode cX12_readsTones 8 = .ok (.bipush 47, 2) := udX12_readsTones_8
theorem dX12_readsTones_10 : decode cX12_readsTones 10 = .ok (.if_icmp .eq 89, 3) := udX12_readsTones_10
theorem dX12_readsTones_99 : decode cX12_readsTones 99 = .ok (.aload_n 0, 1) := udX12_readsTones_99
theorem dX12_readsTones_100 : decode cX12_readsTones 100 = .ok (.dup, 1) := udX12_readsTones_100
theorem dX12_readsTones_101 : decode cX12_readsTones 101 = .ok (.getfield 172, 3) := udX12_readsTones_101
theorem dX12_readsTones_104 : decode cX12_readsTones 104 = .ok (.iconst 1, 1) := udX12_readsTones_104
theorem dX12_readsTones_105 : decode cX12_readsTones 105 = .ok (.iadd, 1) := udX12_readsTones_105
theorem dX12_readsTones_106 : decode cX12_readsTones 106 = .ok (.putfield 172, 3) := udX12_readsTones_106
theorem dX12_readsTones_109 : decode cX12_readsTones 109 = .ok (.iconst 1, 1) := udX12_readsTones_109
theorem dX12_readsTones_110 : decode cX12_readsTones 110 = .ok (.ireturn, 1) := udX12_readsTones_110
theorem dX12_readsTones_13 : decode cX12_readsTones 13 = .ok (.aload_n 0, 1) := udX12_readsTones_13
theorem dX12_readsTones_14 : decode cX12_readsTones 14 = .ok (.invokevirtual 175, 3) := udX12_readsTones_14
theorem dX12_readsTones_17 : decode cX12_readsTones 17 = .ok (.istore_n 1, 1) := udX12_readsTones_17
theorem dX12_readsTones_18 : decode cX12_readsTones 18 = .ok (.iload_n 1, 1) := udX12_readsTones_18
theorem dX12_readsTones_19 : decode cX12_readsTones 19 = .ok (.bipush 108, 2) := udX12_readsTones_19
theorem dX12_readsTones_21 : decode cX12_readsTones 21 = .ok (.if_icmp .ne 7, 3) := udX12_readsTones_21
theorem dX12_readsTones_28 : decode cX12_readsTones 28 = .ok (.iload_n 1, 1) := udX12_readsTones_28
theorem dX12_readsTones_29 : decode cX12_readsTones 29 = .ok (.bipush 109, 2) := udX12_readsTones_29
theorem dX12_readsTones_31 : decode cX12_readsTones 31 = .ok (.if_icmp .ne 7, 3) := udX12_readsTones_31
theorem dX12_readsTones_38 : decode cX12_readsTones 38 = .ok (.iload_n 1, 1) := udX12_readsTones_38
theorem dX12_readsTones_39 : decode cX12_readsTones 39 = .ok (.bipush 104, 2) := udX12_readsTones_39
theorem dX12_readsTones_41 : decode cX12_readsTones 41 = .ok (.if_icmp .ne 7, 3) := udX12_readsTones_41
theorem dX12_readsTones_48 : decode cX12_readsTones 48 = .ok (.iconst (-1), 1) := udX12_readsTones_48
theorem dX12_readsTones_49 : decode cX12_readsTones 49 = .ok (.istore_n 2, 1) := udX12_readsTones_49
theorem dX12_readsTones_50 : decode cX12_readsTones 50 = .ok (.iload_n 2, 1) := udX12_readsTones_50
theorem dX12_readsTones_51 : decode cX12_readsTones 51 = .ok (.iconst (-1), 1) := udX12_readsTones_51
theorem dX12_readsTones_52 : decode cX12_readsTones 52 = .ok (.if_icmp .eq 14, 3) := udX12_readsTones_52
theorem dX12_readsTones_66 : decode cX12_readsTones 66 = .ok (.iconst 0, 1) := udX12_readsTones_66
theorem dX12_readsTones_67 : decode cX12_readsTones 67 = .ok (.ireturn, 1) := udX12_readsTones_67
theorem dX12_readsTones_44 : decode cX12_readsTones 44 = .ok (.iconst 2, 1) := udX12_readsTones_44
theorem dX12_readsTones_45 : decode cX12_readsTones 45 = .ok (.goto 4, 3) := udX12_readsTones_45
theorem dX12_readsTones_55 : decode cX12_readsTones 55 = .ok (.aload_n 0, 1) := udX12_readsTones_55
theorem dX12_readsTones_56 : decode cX12_readsTones 56 = .ok (.getfield 26, 3) := udX12_readsTones_56
theorem tb_595 : Cond.fieldLink "ToneLinesModel" 26 "ToneLinesModel" "read" "[I" ∈ TB := utb_93
theorem dX12_readsTones_59 : decode cX12_readsTones 59 = .ok (.iconst 0, 1) := udX12_readsTones_59
theorem dX12_readsTones_60 : decode cX12_readsTones 60 = .ok (.iaload, 1) := udX12_readsTones_60
theorem dX12_readsTones_61 : decode cX12_readsTones 61 = .ok (.bipush 12, 2) := udX12_readsTones_61
theorem dX12_readsTones_63 : decode cX12_readsTones 63 = .ok (.if_icmp .ne 5, 3) := udX12_readsTones_63
theorem dX12_readsTones_68 : decode cX12_readsTones 68 = .ok (.aload_n 0, 1) := udX12_readsTones_68
theorem dX12_readsTones_69 : decode cX12_readsTones 69 = .ok (.getfield 26, 3) := udX12_readsTones_69
theorem dX12_readsTones_72 : decode cX12_readsTones 72 = .ok (.aload_n 0, 1) := udX12_readsTones_72
theorem dX12_readsTones_73 : decode cX12_readsTones 73 = .ok (.getfield 26, 3) := udX12_readsTones_73
theorem dX12_readsTones_76 : decode cX12_readsTones 76 = .ok (.iconst 0, 1) := udX12_readsTones_76
theorem dX12_readsTones_77 : decode cX12_readsTones 77 = .ok (.iaload, 1) := udX12_readsTones_77
theorem dX12_readsTones_78 : decode cX12_readsTones 78 = .ok (.iload_n 2, 1) := udX12_readsTones_78
theorem dX12_readsTones_79 : decode cX12_readsTones 79 = .ok (.invokestatic 112, 3) := udX12_readsTones_79
theorem dX12_readsTones_82 : decode cX12_readsTones 82 = .ok (.aload_n 0, 1) := udX12_readsTones_82
theorem dX12_readsTones_83 : decode cX12_readsTones 83 = .ok (.dup, 1) := udX12_readsTones_83
theorem dX12_readsTones_84 : decode cX12_readsTones 84 = .ok (.getfield 172, 3) := udX12_readsTones_84
theorem dX12_readsTones_87 : decode cX12_readsTones 87 = .ok (.iconst 1, 1) := udX12_readsTones_87
theorem dX12_readsTones_88 : decode cX12_readsTones 88 = .ok (.iadd, 1) := udX12_readsTones_88
theorem dX12_readsTones_89 : decode cX12_readsTones 89 = .ok (.putfield 172, 3) := udX12_readsTones_89
theorem dX12_readsTones_92 : decode cX12_readsTones 92 = .ok (.aload_n 0, 1) := udX12_readsTones_92
theorem dX12_readsTones_93 : decode cX12_readsTones 93 = .ok (.invokevirtual 179, 3) := udX12_readsTones_93
theorem dX12_readsTones_96 : decode cX12_readsTones 96 = .ok (.goto (-92), 3) := udX12_readsTones_96
theorem dX12_readsTones_34 : decode cX12_readsTones 34 = .ok (.iconst 1, 1) := udX12_readsTones_34
theorem dX12_readsTones_35 : decode cX12_readsTones 35 = .ok (.goto 14, 3) := udX12_readsTones_35
theorem dX12_readsTones_24 : decode cX12_readsTones 24 = .ok (.iconst 0, 1) := udX12_readsTones_24
theorem dX12_readsTones_25 : decode cX12_readsTones 25 = .ok (.goto 24, 3) := udX12_readsTones_25
set_option maxRecDepth 4000 in
theorem q_X12_readsTones {l : Launch} {D : va_G} {B : Nat} {cy : Nat → ClassId} {M : Mem}  (hI : IvR M) : Ci l D B cy yX12_readsTones cX12_readsTones 3 (some .boolean) 2 40 [.ref (B + 146)] M (fun r M1 => ∃ z : Int, r = zI z ∧ (0 ≤ z ∧ z ≤ 1) ∧ IvR M1 ∧ Fr (fun b9 k9 => (b9 = 146 ∧ k9 = 9) ∨ b9 = 151) M1 M) := by
  refine s_anyQ (by decide) (Nat.le_of_ble_eq_true rfl) ?_
  intro p e s m args below meth c ls Q F hr hlocks hQ w hl
  have F : CallFix p m c cX12_readsTones 3 s args TB RX12 := F
  have hx := F.1
  have hb := F.2.1
  have hl : lv_has ls 3 [(0, .ref (B + 146))] := hl
  have hF : Fr (fun b9 k9 => (b9 = 146 ∧ k9 = 9) ∨ b9 = 151) M M := Fr.rf
  refine lv_aload_n hx hb dX12_readsTones_0 rfl (lv_at hl 0 rfl) ?_
  obtain ⟨z1, bz1, ez1⟩ := IvR.ld (k := 9) hI (show ivr 146 9 = (0, 300) from rfl) (show 146 ≤ 146 ∧ 146 < 159 by decide)
  refine k_Vv F w (As := []) (rest := []) (a := 146) (kd_lt (a := 146) (show kd 146 = (12, 0, 0) from rfl) (by decide)) (sh_12 rfl _ _) rfl (q_X12_blanks (ai := z1) (ez1) ⟨by omega, by omega⟩  hI) gv_X12_179 hv_X12_blanks ⟨(Nat.le_of_ble_eq_true rfl), (Nat.le_of_ble_eq_true rfl)⟩ hl.1 rfl (Nat.le_of_ble_eq_true rfl) ⟨Nat.zero_le _, Nat.zero_le _⟩ dX12_readsTones_1 (fun N3 H locs hp w => ?_)
  obtain ⟨⟨nz40, enz40, xz4⟩, hIN3, hFN3⟩ := hp
  have hGN3 := Fr.tr hF hFN3 (S := (fun b9 k9 => (b9 = 146 ∧ k9 = 9) ∨ b9 = 151)) (fun b k h => by (try dsimp only at h ⊢); rcases h with ⟨rfl, rfl⟩ <;> first | decide | omega)
  have lp4 : ∀ (f : Nat)  (g146_9_4 : Int) (NL4 : Mem), (0 ≤ g146_9_4 ∧ g146_9_4 ≤ 300) → NL4.1 146 9 = zI g146_9_4 → IvR NL4 → Fr (fun b9 k9 => (b9 = 146 ∧ k9 = 9) ∨ b9 = 151) NL4 M → (Int.toNat (300 - g146_9_4) < f) → ∀ (H : Heap) (locs : List Loc) (ls : Array Slot), Wd D B cy s s.heap NL4 H locs → lv_has ls 3 [(0, .ref (B + 146))] → W p l e (rmm 2 40) s m args below meth c H locs 0 0 Q (F0 m 4 ls []) := by
    intro f
    induction f with
    | zero => intros; omega
    | succ f ih4 =>
      intro  g146_9_4 NL4 ig146_9_4 eg146_9_4 hIL4 hFL4 hf4 H locs ls w hl
      refine lv_aload_n hx hb dX12_readsTones_4 rfl (lv_at hl 0 rfl) ?_
      obtain ⟨z5, bz5, ez5⟩ := IvR.ld (k := 8) hIL4 (show ivr 146 8 = (0, 300) from rfl) (show 146 ≤ 146 ∧ 146 < 159 by decide)
      obtain ⟨z6, bz6, ez6⟩ := IvR.ld (k := (Int.toNat g146_9_4)) hIL4 (show ivr 150 (Int.toNat g146_9_4) = (0, 255) from rfl) (show 146 ≤ 150 ∧ 150 < 159 by decide)
      refine k_Vi F w (As := []) (rest := []) (a := 146) (kd_lt (a := 146) (show kd 146 = (12, 0, 0) from rfl) (by decide)) (sh_12 rfl _ _) rfl (q_X12_here (ai := g146_9_4) (eg146_9_4) ⟨by omega, by omega⟩ (td := z5) (ez5) ⟨by omega, by omega⟩ (tv := z6) (ez6) ⟨by omega, by omega⟩  hIL4) gv_X12_175 hv_X12_here ⟨(Nat.le_of_ble_eq_true rfl), (Nat.le_of_ble_eq_true rfl)⟩ hl.1 rfl (Nat.le_of_ble_eq_true rfl) ⟨Nat.zero_le _, Nat.zero_le _⟩ dX12_readsTones_5 (fun r7 N8 H locs hp w => ?_)
      obtain ⟨z9, rfl, bz9, xz9, hMN8⟩ := hp
      rw [hMN8] at w
      refine lv_bipush (v := zI 47) hx hb dX12_readsTones_8 (by decide) ?_
      refine z_icmp_eq (tgt := 99) hx hb (by omega) (by omega) dX12_readsTones_10 (by decide) (fun c10 => ?_) (fun c10 => ?_)
      · refine lv_aload_n hx hb dX12_readsTones_99 rfl (lv_at hl 0 rfl) ?_
        refine lv_dup hx hb dX12_readsTones_100 rfl ?_
        refine f_12_9 F w (a := 146) rfl tb_586 dX12_readsTones_101 ?_
        refine r_val (v := zI g146_9_4) (eg146_9_4) ?_
        refine lv_iconst (v := zI 1) hx hb dX12_readsTones_104 rfl ?_
        refine z_iadd (z := (g146_9_4 + 1)) hx hb dX12_readsTones_105 (by omega) ?_
        refine u_12_9 F w (a := 146) rfl tb_586 dX12_readsTones_106 (fun H locs w => ?_)
        refine lv_iconst (v := zI 1) hx hb dX12_readsTones_109 rfl ?_
        rw [hQ]
        exact e_z F w hr hlocks (nar_z (by omega)) ⟨_, rfl, ⟨by omega, by omega⟩, (IvR.to hIL4 (a := 146) (k := 9) (x := (g146_9_4 + 1)) (show ivr 146 9 = (0, 300) from rfl) ⟨by omega, by omega⟩ ⟨by decide, by decide, by decide, fun q9 => absurd q9 (by decide)⟩), (Fr.to hFL4 (by first | decide | (dsimp only; first | done | decide | omega) | omega))⟩ dX12_readsTones_110
      · refine lv_aload_n hx hb dX12_readsTones_13 rfl (lv_at hl 0 rfl) ?_
        refine k_Vi F w (As := []) (rest := []) (a := 146) (kd_lt (a := 146) (show kd 146 = (12, 0, 0) from rfl) (by decide)) (sh_12 rfl _ _) rfl (q_X12_here (ai := g146_9_4) (eg146_9_4) ⟨by omega, by omega⟩ (td := z5) (ez5) ⟨by omega, by omega⟩ (tv := z6) (ez6) ⟨by omega, by omega⟩  hIL4) gv_X12_175 hv_X12_here ⟨(Nat.le_of_ble_eq_true rfl), (Nat.le_of_ble_eq_true rfl)⟩ hl.1 rfl (Nat.le_of_ble_eq_true rfl) ⟨Nat.zero_le _, Nat.zero_le _⟩ dX12_readsTones_14 (fun r11 N12 H locs hp w => ?_)
        obtain ⟨z13, rfl, bz13, xz13, hMN12⟩ := hp
        rw [hMN12] at w
        refine lv_istore_n (lv' := [(1, .int (zI z13)), (0, .ref (B + 146))]) hx hb dX12_readsTones_17 rfl hl (by decide) rfl (fun ls hl => ?_)
        refine lv_iload_n hx hb dX12_readsTones_18 rfl (lv_at hl 0 rfl) ?_
        refine lv_bipush (v := zI 108) hx hb dX12_readsTones_19 (by decide) ?_
        refine z_icmp_ne (tgt := 28) hx hb (by omega) (by omega) dX12_readsTones_21 (by decide) (fun c14 => ?_) (fun c14 => ?_)
        · refine lv_iload_n hx hb dX12_readsTones_28 rfl (lv_at hl 0 rfl) ?_
          refine lv_bipush (v := zI 109) hx hb dX12_readsTones_29 (by decide) ?_
          refine z_icmp_ne (tgt := 38) hx hb (by omega) (by omega) dX12_readsTones_31 (by decide) (fun c15 => ?_) (fun c15 => ?_)
          · refine lv_iload_n hx hb dX12_readsTones_38 rfl (lv_at hl 0 rfl) ?_
            refine lv_bipush (v := zI 104) hx hb dX12_readsTones_39 (by decide) ?_
            refine z_icmp_ne (tgt := 48) hx hb (by omega) (by omega) dX12_readsTones_41 (by decide) (fun c16 => ?_) (fun c16 => ?_)
            · refine lv_iconst (v := zI (-1)) hx hb dX12_readsTones_48 rfl ?_
              refine lv_istore_n (lv' := [(2, .int (zI (-1))), (1, .int (zI z13)), (0, .ref (B + 146))]) hx hb dX12_readsTones_49 rfl hl (by decide) rfl (fun ls hl => ?_)
              refine lv_iload_n hx hb dX12_readsTones_50 rfl (lv_at hl 0 rfl) ?_
              refine lv_iconst (v := zI (-1)) hx hb dX12_readsTones_51 rfl ?_
              refine z_icmp_eq (tgt := 66) hx hb (by omega) (by omega) dX12_readsTones_52 (by decide) (fun c17 => ?_) (fun c17 => False.elim (by omega))
              refine lv_iconst (v := zI 0) hx hb dX12_readsTones_66 rfl ?_
              rw [hQ]
              exact e_z F w hr hlocks (nar_z (by omega)) ⟨_, rfl, ⟨by omega, by omega⟩, hIL4, hFL4⟩ dX12_readsTones_67
            · refine lv_iconst (v := zI 2) hx hb dX12_readsTones_44 rfl ?_
              refine lv_goto (tgt := 49) hx hb dX12_readsTones_45 (by decide) ?_
              refine lv_istore_n (lv' := [(2, .int (zI 2)), (1, .int (zI z13)), (0, .ref (B + 146))]) hx hb dX12_readsTones_49 rfl hl (by decide) rfl (fun ls hl => ?_)
              refine lv_iload_n hx hb dX12_readsTones_50 rfl (lv_at hl 0 rfl) ?_
              refine lv_iconst (v := zI (-1)) hx hb dX12_readsTones_51 rfl ?_
              refine z_icmp_eq (tgt := 66) hx hb (by omega) (by omega) dX12_readsTones_52 (by decide) (fun c18 => False.elim (by omega)) (fun c18 => ?_)
              refine lv_aload_n hx hb dX12_readsTones_55 rfl (lv_at hl 2 rfl) ?_
              refine f_12_10 F w (a := 146) rfl tb_595 dX12_readsTones_56 ?_
              refine lv_iconst (v := zI 0) hx hb dX12_readsTones_59 rfl ?_
              refine g_iald F w (a := 151) rfl (j := 0) ⟨by decide, by decide⟩ (by omega) dX12_readsTones_60 ?_
              obtain ⟨z19, bz19, ez19⟩ := IvR.ld (k := 0) hIL4 (show ivr 151 0 = (0, 12) from rfl) (show 146 ≤ 151 ∧ 151 < 159 by decide)
              refine r_val ez19 ?_
              refine lv_bipush (v := zI 12) hx hb dX12_readsTones_61 (by decide) ?_
              refine z_icmp_ne (tgt := 68) hx hb (by omega) (by omega) dX12_readsTones_63 (by decide) (fun c20 => ?_) (fun c20 => ?_)
              · refine lv_aload_n hx hb dX12_readsTones_68 rfl (lv_at hl 2 rfl) ?_
                refine f_12_10 F w (a := 146) rfl tb_595 dX12_readsTones_69 ?_
                refine lv_aload_n hx hb dX12_readsTones_72 rfl (lv_at hl 2 rfl) ?_
                refine f_12_10 F w (a := 146) rfl tb_595 dX12_readsTones_73 ?_
                refine lv_iconst (v := zI 0) hx hb dX12_readsTones_76 rfl ?_
                refine g_iald F w (a := 151) rfl (j := 0) ⟨by decide, by decide⟩ (by omega) dX12_readsTones_77 ?_
                refine r_val (v := zI z19) (ez19) ?_
                refine lv_iload_n hx hb dX12_readsTones_78 rfl (lv_at hl 0 rfl) ?_
                refine k_Sv F w (As := [.ref (B + 151), .int (zI z19), .int (zI 2)]) (rest := []) (q_insert_151 (t := z19) ⟨by omega, by omega⟩ (x := 2) ⟨by omega, by omega⟩ (nn := z19) (ez19) ⟨by omega, by omega⟩ (by omega) (by omega) hIL4) gs_X12_112 hs_X12_insert ⟨(Nat.le_of_ble_eq_true rfl), (Nat.le_of_ble_eq_true rfl)⟩ hl.1 rfl (Nat.le_of_ble_eq_true rfl) ⟨Nat.zero_le _, Nat.zero_le _⟩ dX12_readsTones_79 (fun N22 H locs hp w => ?_)
                obtain ⟨yN22_151_0, hIN22, hFN22⟩ := hp
                have hGN22 := Fr.tr hFL4 hFN22 (S := (fun b9 k9 => (b9 = 146 ∧ k9 = 9) ∨ b9 = 151)) (fun b k h => by (try dsimp only at h ⊢); rcases h with rfl <;> first | decide | omega)
                have kn24 : N22.1 146 9 = zI g146_9_4 := (hFN22 146 9 (by first | decide | (dsimp only; first | done | decide | omega) | omega)).trans (eg146_9_4)
                have kn25 : N22.1 146 8 = zI z5 := (hFN22 146 8 (by first | decide | (dsimp only; first | done | decide | omega) | omega)).trans (ez5)
                refine lv_aload_n hx hb dX12_readsTones_82 rfl (lv_at hl 2 rfl) ?_
                refine lv_dup hx hb dX12_readsTones_83 rfl ?_
                refine f_12_9 F w (a := 146) rfl tb_586 dX12_readsTones_84 ?_
                refine r_val (v := zI g146_9_4) (kn24) ?_
                refine lv_iconst (v := zI 1) hx hb dX12_readsTones_87 rfl ?_
                refine z_iadd (z := (g146_9_4 + 1)) hx hb dX12_readsTones_88 (by omega) ?_
                refine u_12_9 F w (a := 146) rfl tb_586 dX12_readsTones_89 (fun H locs w => ?_)
                refine lv_aload_n hx hb dX12_readsTones_92 rfl (lv_at hl 2 rfl) ?_
                refine k_Vv F w (As := []) (rest := []) (a := 146) (kd_lt (a := 146) (show kd 146 = (12, 0, 0) from rfl) (by decide)) (sh_12 rfl _ _) rfl (q_X12_blanks (ai := (g146_9_4 + 1)) (st_at) ⟨by omega, by omega⟩  (IvR.to hIN22 (a := 146) (k := 9) (x := (g146_9_4 + 1)) (show ivr 146 9 = (0, 300) from rfl) ⟨by omega, by omega⟩ ⟨by decide, by decide, by decide, fun q9 => absurd q9 (by decide)⟩)) gv_X12_179 hv_X12_blanks ⟨(Nat.le_of_ble_eq_true rfl), (Nat.le_of_ble_eq_true rfl)⟩ hl.1 rfl (Nat.le_of_ble_eq_true rfl) ⟨Nat.zero_le _, Nat.zero_le _⟩ dX12_readsTones_93 (fun N27 H locs hp w => ?_)
                obtain ⟨⟨nz280, enz280, xz28⟩, hIN27, hFN27⟩ := hp
                have hGN27 := Fr.tr (Fr.to hGN22 (by first | decide | (dsimp only; first | done | decide | omega) | omega)) hFN27 (S := (fun b9 k9 => (b9 = 146 ∧ k9 = 9) ∨ b9 = 151)) (fun b k h => by (try dsimp only at h ⊢); rcases h with ⟨rfl, rfl⟩ <;> first | decide | omega)
                have kn29 : N27.1 146 8 = zI z5 := (hFN27 146 8 (by first | decide | (dsimp only; first | done | decide | omega) | omega)).trans ((st_ne (Or.inr (by decide))).trans kn25)
                have kn30 : N27.1 151 0 = zI (z19 + 1) := (hFN27 151 0 (by first | decide | (dsimp only; first | done | decide | omega) | omega)).trans ((st_ne (Or.inl (by decide))).trans yN22_151_0)
                refine lv_goto (tgt := 4) hx hb dX12_readsTones_96 (by decide) ?_
                exact ih4 nz280 N27  (by omega) (enz280)  hIN27 hGN27 (by omega) _ _ _ w (lv_sub hl [2] rfl)
              · refine lv_iconst (v := zI 0) hx hb dX12_readsTones_66 rfl ?_
                rw [hQ]
                exact e_z F w hr hlocks (nar_z (by omega)) ⟨_, rfl, ⟨by omega, by omega⟩, hIL4, hFL4⟩ dX12_readsTones_67
          · refine lv_iconst (v := zI 1) hx hb dX12_readsTones_34 rfl ?_
            refine lv_goto (tgt := 49) hx hb dX12_readsTones_35 (by decide) ?_
            refine lv_istore_n (lv' := [(2, .int (zI 1)), (1, .int (zI z13)), (0, .ref (B + 146))]) hx hb dX12_readsTones_49 rfl hl (by decide) rfl (fun ls hl => ?_)
            refine lv_iload_n hx hb dX12_readsTones_50 rfl (lv_at hl 0 rfl) ?_
            refine lv_iconst (v := zI (-1)) hx hb dX12_readsTones_51 rfl ?_
            refine z_icmp_eq (tgt := 66) hx hb (by omega) (by omega) dX12_readsTones_52 (by decide) (fun c31 => False.elim (by omega)) (fun c31 => ?_)
            refine lv_aload_n hx hb dX12_readsTones_55 rfl (lv_at hl 2 rfl) ?_
            refine f_12_10 F w (a := 146) rfl tb_595 dX12_readsTones_56 ?_
            refine lv_iconst (v := zI 0) hx hb dX12_readsTones_59 rfl ?_
            refine g_iald F w (a := 151) rfl (j := 0) ⟨by decide, by decide⟩ (by omega) dX12_readsTones_60 ?_
            obtain ⟨z32, bz32, ez32⟩ := IvR.ld (k := 0) hIL4 (show ivr 151 0 = (0, 12) from rfl) (show 146 ≤ 151 ∧ 151 < 159 by decide)
            refine r_val ez32 ?_
            refine lv_bipush (v := zI 12) hx hb dX12_readsTones_61 (by decide) ?_
            refine z_icmp_ne (tgt := 68) hx hb (by omega) (by omega) dX12_readsTones_63 (by decide) (fun c33 => ?_) (fun c33 => ?_)
            · refine lv_aload_n hx hb dX12_readsTones_68 rfl (lv_at hl 2 rfl) ?_
              refine f_12_10 F w (a := 146) rfl tb_595 dX12_readsTones_69 ?_
              refine lv_aload_n hx hb dX12_readsTones_72 rfl (lv_at hl 2 rfl) ?_
              refine f_12_10 F w (a := 146) rfl tb_595 dX12_readsTones_73 ?_
              refine lv_iconst (v := zI 0) hx hb dX12_readsTones_76 rfl ?_
              refine g_iald F w (a := 151) rfl (j := 0) ⟨by decide, by decide⟩ (by omega) dX12_readsTones_77 ?_
              refine r_val (v := zI z32) (ez32) ?_
              refine lv_iload_n hx hb dX12_readsTones_78 rfl (lv_at hl 0 rfl) ?_
              refine k_Sv F w (As := [.ref (B + 151), .int (zI z32), .int (zI 1)]) (rest := []) (q_insert_151 (t := z32) ⟨by omega, by omega⟩ (x := 1) ⟨by omega, by omega⟩ (nn := z32) (ez32) ⟨by omega, by omega⟩ (by omega) (by omega) hIL4) gs_X12_112 hs_X12_insert ⟨(Nat.le_of_ble_eq_true rfl), (Nat.le_of_ble_eq_true rfl)⟩ hl.1 rfl (Nat.le_of_ble_eq_true rfl) ⟨Nat.zero_le _, Nat.zero_le _⟩ dX12_readsTones_79 (fun N35 H locs hp w => ?_)
              obtain ⟨yN35_151_0, hIN35, hFN35⟩ := hp
              have hGN35 := Fr.tr hFL4 hFN35 (S := (fun b9 k9 => (b9 = 146 ∧ k9 = 9) ∨ b9 = 151)) (fun b k h => by (try dsimp only at h ⊢); rcases h with rfl <;> first | decide | omega)
              have kn37 : N35.1 146 9 = zI g146_9_4 := (hFN35 146 9 (by first | decide | (dsimp only; first | done | decide | omega) | omega)).trans (eg146_9_4)
              have kn38 : N35.1 146 8 = zI z5 := (hFN35 146 8 (by first | decide | (dsimp only; first | done | decide | omega) | omega)).trans (ez5)
              refine lv_aload_n hx hb dX12_readsTones_82 rfl (lv_at hl 2 rfl) ?_
              refine lv_dup hx hb dX12_readsTones_83 rfl ?_
              refine f_12_9 F w (a := 146) rfl tb_586 dX12_readsTones_84 ?_
              refine r_val (v := zI g146_9_4) (kn37) ?_
              refine lv_iconst (v := zI 1) hx hb dX12_readsTones_87 rfl ?_
              refine z_iadd (z := (g146_9_4 + 1)) hx hb dX12_readsTones_88 (by omega) ?_
              refine u_12_9 F w (a := 146) rfl tb_586 dX12_readsTones_89 (fun H locs w => ?_)
              refine lv_aload_n hx hb dX12_readsTones_92 rfl (lv_at hl 2 rfl) ?_
              refine k_Vv F w (As := []) (rest := []) (a := 146) (kd_lt (a := 146) (show kd 146 = (12, 0, 0) from rfl) (by decide)) (sh_12 rfl _ _) rfl (q_X12_blanks (ai := (g146_9_4 + 1)) (st_at) ⟨by omega, by omega⟩  (IvR.to hIN35 (a := 146) (k := 9) (x := (g146_9_4 + 1)) (show ivr 146 9 = (0, 300) from rfl) ⟨by omega, by omega⟩ ⟨by decide, by decide, by decide, fun q9 => absurd q9 (by decide)⟩)) gv_X12_179 hv_X12_blanks ⟨(Nat.le_of_ble_eq_true rfl), (Nat.le_of_ble_eq_true rfl)⟩ hl.1 rfl (Nat.le_of_ble_eq_true rfl) ⟨Nat.zero_le _, Nat.zero_le _⟩ dX12_readsTones_93 (fun N40 H locs hp w => ?_)
              obtain ⟨⟨nz410, enz410, xz41⟩, hIN40, hFN40⟩ := hp
              have hGN40 := Fr.tr (Fr.to hGN35 (by first | decide | (dsimp only; first | done | decide | omega) | omega)) hFN40 (S := (fun b9 k9 => (b9 = 146 ∧ k9 = 9) ∨ b9 = 151)) (fun b k h => by (try dsimp only at h ⊢); rcases h with ⟨rfl, rfl⟩ <;> first | decide | omega)
              have kn42 : N40.1 146 8 = zI z5 := (hFN40 146 8 (by first | decide | (dsimp only; first | done | decide | omega) | omega)).trans ((st_ne (Or.inr (by decide))).trans kn38)
              have kn43 : N40.1 151 0 = zI (z32 + 1) := (hFN40 151 0 (by first | decide | (dsimp only; first | done | decide | omega) | omega)).trans ((st_ne (Or.inl (by decide))).trans yN35_151_0)
              refine lv_goto (tgt := 4) hx hb dX12_readsTones_96 (by decide) ?_
              exact ih4 nz410 N40  (by omega) (enz410)  hIN40 hGN40 (by omega) _ _ _ w (lv_sub hl [2] rfl)
            · refine lv_iconst (v := zI 0) hx hb dX12_readsTones_66 rfl ?_
              rw [hQ]
              exact e_z F w hr hlocks (nar_z (by omega)) ⟨_, rfl, ⟨by omega, by omega⟩, hIL4, hFL4⟩ dX12_readsTones_67
        · refine lv_iconst (v := zI 0) hx hb dX12_readsTones_24 rfl ?_
          refine lv_goto (tgt := 49) hx hb dX12_readsTones_25 (by decide) ?_
          refine lv_istore_n (lv' := [(2, .int (zI 0)), (1, .int (zI z13)), (0, .ref (B + 146))]) hx hb dX12_readsTones_49 rfl hl (by decide) rfl (fun ls hl => ?_)
          refine lv_iload_n hx hb dX12_readsTones_50 rfl (lv_at hl 0 rfl) ?_
          refine lv_iconst (v := zI (-1)) hx hb dX12_readsTones_51 rfl ?_
          refine z_icmp_eq (tgt := 66) hx hb (by omega) (by omega) dX12_readsTones_52 (by decide) (fun c44 => False.elim (by omega)) (fun c44 => ?_)
          refine lv_aload_n hx hb dX12_readsTones_55 rfl (lv_at hl 2 rfl) ?_
          refine f_12_10 F w (a := 146) rfl tb_595 dX12_readsTones_56 ?_
          refine lv_iconst (v := zI 0) hx hb dX12_readsTones_59 rfl ?_
          refine g_iald F w (a := 151) rfl (j := 0) ⟨by decide, by decide⟩ (by omega) dX12_readsTones_60 ?_
          obtain ⟨z45, bz45, ez45⟩ := IvR.ld (k := 0) hIL4 (show ivr 151 0 = (0, 12) from rfl) (show 146 ≤ 151 ∧ 151 < 159 by decide)
          refine r_val ez45 ?_
          refine lv_bipush (v := zI 12) hx hb dX12_readsTones_61 (by decide) ?_
          refine z_icmp_ne (tgt := 68) hx hb (by omega) (by omega) dX12_readsTones_63 (by decide) (fun c46 => ?_) (fun c46 => ?_)
          · refine lv_aload_n hx hb dX12_readsTones_68 rfl (lv_at hl 2 rfl) ?_
            refine f_12_10 F w (a := 146) rfl tb_595 dX12_readsTones_69 ?_
            refine lv_aload_n hx hb dX12_readsTones_72 rfl (lv_at hl 2 rfl) ?_
            refine f_12_10 F w (a := 146) rfl tb_595 dX12_readsTones_73 ?_
            refine lv_iconst (v := zI 0) hx hb dX12_readsTones_76 rfl ?_
            refine g_iald F w (a := 151) rfl (j := 0) ⟨by decide, by decide⟩ (by omega) dX12_readsTones_77 ?_
            refine r_val (v := zI z45) (ez45) ?_
            refine lv_iload_n hx hb dX12_readsTones_78 rfl (lv_at hl 0 rfl) ?_
            refine k_Sv F w (As := [.ref (B + 151), .int (zI z45), .int (zI 0)]) (rest := []) (q_insert_151 (t := z45) ⟨by omega, by omega⟩ (x := 0) ⟨by omega, by omega⟩ (nn := z45) (ez45) ⟨by omega, by omega⟩ (by omega) (by omega) hIL4) gs_X12_112 hs_X12_insert ⟨(Nat.le_of_ble_eq_true rfl), (Nat.le_of_ble_eq_true rfl)⟩ hl.1 rfl (Nat.le_of_ble_eq_true rfl) ⟨Nat.zero_le _, Nat.zero_le _⟩ dX12_readsTones_79 (fun N48 H locs hp w => ?_)
            obtain ⟨yN48_151_0, hIN48, hFN48⟩ := hp
            have hGN48 := Fr.tr hFL4 hFN48 (S := (fun b9 k9 => (b9 = 146 ∧ k9 = 9) ∨ b9 = 151)) (fun b k h => by (try dsimp only at h ⊢); rcases h with rfl <;> first | decide | omega)
            have kn50 : N48.1 146 9 = zI g146_9_4 := (hFN48 146 9 (by first | decide | (dsimp only; first | done | decide | omega) | omega)).trans (eg146_9_4)
            have kn51 : N48.1 146 8 = zI z5 := (hFN48 146 8 (by first | decide | (dsimp only; first | done | decide | omega) | omega)).trans (ez5)
            refine lv_aload_n hx hb dX12_readsTones_82 rfl (lv_at hl 2 rfl) ?_
            refine lv_dup hx hb dX12_readsTones_83 rfl ?_
            refine f_12_9 F w (a := 146) rfl tb_586 dX12_readsTones_84 ?_
            refine r_val (v := zI g146_9_4) (kn50) ?_
            refine lv_iconst (v := zI 1) hx hb dX12_readsTones_87 rfl ?_
            refine z_iadd (z := (g146_9_4 + 1)) hx hb dX12_readsTones_88 (by omega) ?_
            refine u_12_9 F w (a := 146) rfl tb_586 dX12_readsTones_89 (fun H locs w => ?_)
            refine lv_aload_n hx hb dX12_readsTones_92 rfl (lv_at hl 2 rfl) ?_
            refine k_Vv F w (As := []) (rest := []) (a := 146) (kd_lt (a := 146) (show kd 146 = (12, 0, 0) from rfl) (by decide)) (sh_12 rfl _ _) rfl (q_X12_blanks (ai := (g146_9_4 + 1)) (st_at) ⟨by omega, by omega⟩  (IvR.to hIN48 (a := 146) (k := 9) (x := (g146_9_4 + 1)) (show ivr 146 9 = (0, 300) from rfl) ⟨by omega, by omega⟩ ⟨by decide, by decide, by decide, fun q9 => absurd q9 (by decide)⟩)) gv_X12_179 hv_X12_blanks ⟨(Nat.le_of_ble_eq_true rfl), (Nat.le_of_ble_eq_true rfl)⟩ hl.1 rfl (Nat.le_of_ble_eq_true rfl) ⟨Nat.zero_le _, Nat.zero_le _⟩ dX12_readsTones_93 (fun N53 H locs hp w => ?_)
            obtain ⟨⟨nz540, enz540, xz54⟩, hIN53, hFN53⟩ := hp
            have hGN53 := Fr.tr (Fr.to hGN48 (by first | decide | (dsimp only; first | done | decide | omega) | omega)) hFN53 (S := (fun b9 k9 => (b9 = 146 ∧ k9 = 9) ∨ b9 = 151)) (fun b k h => by (try dsimp only at h ⊢); rcases h with ⟨rfl, rfl⟩ <;> first | decide | omega)
            have kn55 : N53.1 146 8 = zI z5 := (hFN53 146 8 (by first | decide | (dsimp only; first | done | decide | omega) | omega)).trans ((st_ne (Or.inr (by decide))).trans kn51)
            have kn56 : N53.1 151 0 = zI (z45 + 1) := (hFN53 151 0 (by first | decide | (dsimp only; first | done | decide | omega) | omega)).trans ((st_ne (Or.inl (by decide))).trans yN48_151_0)
            refine lv_goto (tgt := 4) hx hb dX12_readsTones_96 (by decide) ?_
            exact ih4 nz540 N53  (by omega) (enz540)  hIN53 hGN53 (by omega) _ _ _ w (lv_sub hl [2] rfl)
          · refine lv_iconst (v := zI 0) hx hb dX12_readsTones_66 rfl ?_
            rw [hQ]
            exact e_z F w hr hlocks (nar_z (by omega)) ⟨_, rfl, ⟨by omega, by omega⟩, hIL4, hFL4⟩ dX12_readsTones_67
  exact lp4 _ nz40 N3 (by omega) (enz40) hIN3 hGN3 (Nat.lt_succ_self _) _ _ _ w (lv_sub hl [0] rfl)
theorem dX12_readsSyllables_0 : decode cX12_readsSyllables 0 = .ok (.aload_n 0, 1) := udX12_readsSyllables_0
theorem dX12_readsSyllables_1 : decode cX12_readsSyllables 1 = .ok (.invokevirtual 179, 3) := udX12_readsSyllables_1
theorem dX12_readsSyllables_4 : decode cX12_readsSyllables 4 = .ok (.aload_n 0, 1) := udX12_readsSyllables_4
theorem dX12_readsSyllables_5 : decode cX12_readsSyllables 5 = .ok (.invokevirtual 175, 3) := udX12_readsSyllables_5
theorem dX12_readsSyllables_8 : decode cX12_readsSyllables 8 = .ok (.bipush 47, 2) := udX12_readsSyllables_8
theorem dX12_readsSyllables_10 : decode cX12_readsSyllables 10 = .ok (.if_icmp .eq 133, 3) := udX12_readsSyllables_10
theorem dX12_readsSyllables_143 : decode cX12_readsSyllables 143 = .ok (.aload_n 0, 1) := udX12_readsSyllables_143
theorem dX12_readsSyllables_144 : decode cX12_readsSyllables 144 = .ok (.dup, 1) := udX12_readsSyllables_144
theorem dX12_readsSyllables_145 : decode cX12_readsSyllables 145 = .ok (.getfield 172, 3) := udX12_readsSyllables_145
theorem dX12_readsSyllables_148 : decode cX12_readsSyllables 148 = .ok (.iconst 1, 1) := udX12_readsSyllables_148
theorem dX12_readsSyllables_149 : decode cX12_readsSyllables 149 = .ok (.iadd, 1) := udX12_readsSyllables_149
theorem dX12_readsSyllables_150 : decode cX12_readsSyllables 150 = .ok (.putfield 172, 3) := udX12_readsSyllables_150
theorem dX12_readsSyllables_153 : decode cX12_readsSyllables 153 = .ok (.iconst 1, 1) := udX12_readsSyllables_153
theorem dX12_readsSyllables_154 : decode cX12_readsSyllables 154 = .ok (.ireturn, 1) := udX12_readsSyllables_154
theorem dX12_readsSyllables_13 : decode cX12_readsSyllables 13 = .ok (.aload_n 0, 1) := udX12_readsSyllables_13
theorem dX12_readsSyllables_14 : decode cX12_readsSyllables 14 = .ok (.invokevirtual 175, 3) := udX12_readsSyllables_14
theorem dX12_readsSyllables_17 : decode cX12_readsSyllables 17 = .ok (.bipush 45, 2) := udX12_readsSyllables_17
theorem dX12_readsSyllables_19 : decode cX12_readsSyllables 19 = .ok (.if_icmp .ne 7, 3) := udX12_readsSyllables_19
theorem dX12_readsSyllables_26 : decode cX12_readsSyllables 26 = .ok (.iconst 0, 1) := udX12_readsSyllables_26
theorem dX12_readsSyllables_27 : decode cX12_readsSyllables 27 = .ok (.istore_n 1, 1) := udX12_readsSyllables_27
theorem dX12_readsSyllables_28 : decode cX12_readsSyllables 28 = .ok (.iload_n 1, 1) := udX12_readsSyllables_28
theorem dX12_readsSyllables_29 : decode cX12_readsSyllables 29 = .ok (.ifCond .eq 17, 3) := udX12_readsSyllables_29
theorem dX12_readsSyllables_46 : decode cX12_readsSyllables 46 = .ok (.aload_n 0, 1) := udX12_readsSyllables_46
theorem dX12_readsSyllables_47 : decode cX12_readsSyllables 47 = .ok (.invokevirtual 175, 3) := udX12_readsSyllables_47
theorem dX12_readsSyllables_50 : decode cX12_readsSyllables 50 = .ok (.istore_n 2, 1) := udX12_readsSyllables_50
theorem dX12_readsSyllables_51 : decode cX12_readsSyllables 51 = .ok (.aload_n 0, 1) := udX12_readsSyllables_51
theorem dX12_readsSyllables_52 : decode cX12_readsSyllables 52 = .ok (.getfield 26, 3) := udX12_readsSyllables_52
theorem dX12_readsSyllables_55 : decode cX12_readsSyllables 55 = .ok (.bipush 25, 2) := udX12_readsSyllables_55
theorem dX12_readsSyllables_57 : decode cX12_readsSyllables 57 = .ok (.iaload, 1) := udX12_readsSyllables_57
theorem dX12_readsSyllables_58 : decode cX12_readsSyllables 58 = .ok (.istore_n 3, 1) := udX12_readsSyllables_58
theorem dX12_readsSyllables_59 : decode cX12_readsSyllables 59 = .ok (.iload_n 2, 1) := udX12_readsSyllables_59
theorem dX12_readsSyllables_60 : decode cX12_readsSyllables 60 = .ok (.bipush 111, 2) := udX12_readsSyllables_60
theorem dX12_readsSyllables_62 : decode cX12_readsSyllables 62 = .ok (.if_icmp .eq 9, 3) := udX12_readsSyllables_62
theorem dX12_readsSyllables_71 : decode cX12_readsSyllables 71 = .ok (.iload_n 3, 1) := udX12_readsSyllables_71
theorem dX12_readsSyllables_72 : decode cX12_readsSyllables 72 = .ok (.bipush 12, 2) := udX12_readsSyllables_72
theorem dX12_readsSyllables_74 : decode cX12_readsSyllables 74 = .ok (.if_icmp .ne 5, 3) := udX12_readsSyllables_74
theorem dX12_readsSyllables_79 : decode cX12_readsSyllables 79 = .ok (.iload_n 2, 1) := udX12_readsSyllables_79
theorem dX12_readsSyllables_80 : decode cX12_readsSyllables 80 = .ok (.bipush 79, 2) := udX12_readsSyllables_80
theorem dX12_readsSyllables_82 : decode cX12_readsSyllables 82 = .ok (.if_icmp .ne 16, 3) := udX12_readsSyllables_82
theorem dX12_readsSyllables_98 : decode cX12_readsSyllables 98 = .ok (.iload_n 1, 1) := udX12_readsSyllables_98
theorem dX12_readsSyllables_99 : decode cX12_readsSyllables 99 = .ok (.ifCond .eq 16, 3) := udX12_readsSyllables_99
theorem dX12_readsSyllables_115 : decode cX12_readsSyllables 115 = .ok (.aload_n 0, 1) := udX12_readsSyllables_115
theorem dX12_readsSyllables_116 : decode cX12_readsSyllables 116 = .ok (.getfield 26, 3) := udX12_readsSyllables_116
theorem dX12_readsSyllables_119 : decode cX12_readsSyllables 119 = .ok (.bipush 25, 2) := udX12_readsSyllables_119
theorem dX12_readsSyllables_121 : decode cX12_readsSyllables 121 = .ok (.dup2, 1) := udX12_readsSyllables_121
theorem dX12_readsSyllables_122 : decode cX12_readsSyllables 122 = .ok (.iaload, 1) := udX12_readsSyllables_122
theorem dX12_readsSyllables_123 : decode cX12_readsSyllables 123 = .ok (.iconst 1, 1) := udX12_readsSyllables_123
theorem dX12_readsSyllables_124 : decode cX12_readsSyllables 124 = .ok (.iadd, 1) := udX12_readsSyllables_124
theorem dX12_readsSyllables_125 : decode cX12_readsSyllables 125 = .ok (.iastore, 1) := udX12_readsSyllables_125
theorem dX12_readsSyllables_126 : decode cX12_readsSyllables 126 = .ok (.aload_n 0, 1) := udX12_readsSyllables_126
theorem dX12_readsSyllables_127 : decode cX12_readsSyllables 127 = .ok (.dup, 1) := udX12_readsSyllables_127
theorem dX12_readsSyllables_128 : decode cX12_readsSyllables 128 = .ok (.getfield 172, 3) := udX12_readsSyllables_128
theorem dX12_readsSyllables_131 : decode cX12_readsSyllables 131 = .ok (.iconst 1, 1) := udX12_readsSyllables_131
theorem dX12_readsSyllables_132 : decode cX12_readsSyllables 132 = .ok (.iadd, 1) := udX12_readsSyllables_132
theorem dX12_readsSyllables_133 : decode cX12_readsSyllables 133 = .ok (.putfield 172, 3) := udX12_readsSyllables_133
theorem dX12_readsSyllables_136 : decode cX12_readsSyllables 136 = .ok (.aload_n 0, 1) := udX12_readsSyllables_136
theorem dX12_readsSyllables_137 : decode cX12_readsSyllables 137 = .ok (.invokevirtual 179, 3) := udX12_readsSyllables_137
theorem dX12_readsSyllables_140 : decode cX12_readsSyllables 140 = .ok (.goto (-136), 3) := udX12_readsSyllables_140
theorem dX12_readsSyllables_77 : decode cX12_readsSyllables 77 = .ok (.iconst 0, 1) := udX12_readsSyllables_77
theorem dX12_readsSyllables_78 : decode cX12_readsSyllables 78 = .ok (.ireturn, 1) := udX12_readsSyllables_78
theorem dX12_readsSyllables_65 : decode cX12_readsSyllables 65 = .ok (.iload_n 2, 1) := udX12_readsSyllables_65
theorem dX12_readsSyllables_66 : decode cX12_readsSyllables 66 = .ok (.bipush 79, 2) := udX12_readsSyllables_66
theorem dX12_readsSyllables_68 : decode cX12_readsSyllables 68 = .ok (.if_icmp .ne 9, 3) := udX12_readsSyllables_68
theorem dX12_readsSyllables_85 : decode cX12_readsSyllables 85 = .ok (.aload_n 0, 1) := udX12_readsSyllables_85
theorem dX12_readsSyllables_86 : decode cX12_readsSyllables 86 = .ok (.getfield 26, 3) := udX12_readsSyllables_86
theorem dX12_readsSyllables_89 : decode cX12_readsSyllables 89 = .ok (.bipush 26, 2) := udX12_readsSyllables_89
theorem dX12_readsSyllables_91 : decode cX12_readsSyllables 91 = .ok (.dup2, 1) := udX12_readsSyllables_91
theorem dX12_readsSyllables_92 : decode cX12_readsSyllables 92 = .ok (.iaload, 1) := udX12_readsSyllables_92
theorem dX12_readsSyllables_93 : decode cX12_readsSyllables 93 = .ok (.iconst 1, 1) := udX12_readsSyllables_93
theorem dX12_readsSyllables_94 : decode cX12_readsSyllables 94 = .ok (.iload_n 3, 1) := udX12_readsSyllables_94
theorem dX12_readsSyllables_95 : decode cX12_readsSyllables 95 = .ok (.ishl, 1) := udX12_readsSyllables_95
theorem dX12_readsSyllables_96 : decode cX12_readsSyllables 96 = .ok (.ior, 1) := udX12_readsSyllables_96
theorem dX12_readsSyllables_97 : decode cX12_readsSyllables 97 = .ok (.iastore, 1) := udX12_readsSyllables_97
theorem dX12_readsSyllables_22 : decode cX12_readsSyllables 22 = .ok (.iconst 1, 1) := udX12_readsSyllables_22
theorem dX12_readsSyllables_23 : decode cX12_readsSyllables 23 = .ok (.goto 4, 3) := udX12_readsSyllables_23
theorem dX12_readsSyllables_32 : decode cX12_readsSyllables 32 = .ok (.aload_n 0, 1) := udX12_readsSyllables_32
theorem dX12_readsSyllables_33 : decode cX12_readsSyllables 33 = .ok (.dup, 1) := udX12_readsSyllables_33
theorem dX12_readsSyllables_34 : decode cX12_readsSyllables 34 = .ok (.getfield 172, 3) := udX12_readsSyllables_34
theorem dX12_readsSyllables_37 : decode cX12_readsSyllables 37 = .ok (.iconst 1, 1) := udX12_readsSyllables_37
theorem dX12_readsSyllables_38 : decode cX12_readsSyllables 38 = .ok (.iadd, 1) := udX12_readsSyllables_38
theorem dX12_readsSyllables_39 : decode cX12_readsSyllables 39 = .ok (.putfield 172, 3) := udX12_readsSyllables_39
theorem dX12_readsSyllables_42 : decode cX12_readsSyllables 42 = .ok (.aload_n 0, 1) := udX12_readsSyllables_42
theorem dX12_readsSyllables_43 : decode cX12_readsSyllables 43 = .ok (.invokevirtual 179, 3) := udX12_readsSyllables_43
theorem dX12_readsSyllables_102 : decode cX12_readsSyllables 102 = .ok (.aload_n 0, 1) := udX12_readsSyllables_102
theorem dX12_readsSyllables_103 : decode cX12_readsSyllables 103 = .ok (.getfield 26, 3) := udX12_readsSyllables_103
theorem dX12_readsSyllables_106 : decode cX12_readsSyllables 106 = .ok (.bipush 27, 2) := udX12_readsSyllables_106
theorem dX12_readsSyllables_108 : decode cX12_readsSyllables 108 = .ok (.dup2, 1) := udX12_readsSyllables_108
theorem dX12_readsSyllables_109 : decode cX12_readsSyllables 109 = .ok (.iaload, 1) := udX12_readsSyllables_109
theorem dX12_readsSyllables_110 : decode cX12_readsSyllables 110 = .ok (.iconst 1, 1) := udX12_readsSyllables_110
theorem dX12_readsSyllables_111 : decode cX12_readsSyllables 111 = .ok (.iload_n 3, 1) := udX12_readsSyllables_111
theorem dX12_readsSyllables_112 : decode cX12_readsSyllables 112 = .ok (.ishl, 1) := udX12_readsSyllables_112
theorem dX12_readsSyllables_113 : decode cX12_readsSyllables 113 = .ok (.ior, 1) := udX12_readsSyllables_113
theorem dX12_readsSyllables_114 : decode cX12_readsSyllables 114 = .ok (.iastore, 1) := udX12_readsSyllables_114
set_option maxHeartbeats 4000000 in
set_option maxRecDepth 4000 in
theorem q_X12_readsSyllables {l : Launch} {D : va_G} {B : Nat} {cy : Nat → ClassId} {M : Mem}  (hI : IvR M) : Ci l D B cy yX12_readsSyllables cX12_readsSyllables 4 (some .boolean) 2 40 [.ref (B + 146)] M (fun r M1 => ∃ z : Int, r = zI z ∧ (0 ≤ z ∧ z ≤ 1) ∧ IvR M1 ∧ Fr (fun b9 k9 => (b9 = 146 ∧ k9 = 9) ∨ (b9 = 151 ∧ 25 ≤ k9 ∧ k9 ≤ 25) ∨ (b9 = 151 ∧ 26 ≤ k9 ∧ k9 ≤ 26) ∨ (b9 = 151 ∧ 27 ≤ k9 ∧ k9 ≤ 27)) M1 M) := by
  refine s_anyQ (by decide) (Nat.le_of_ble_eq_true rfl) ?_
  intro p e s m args below meth c ls Q F hr hlocks hQ w hl
  have F : CallFix p m c cX12_readsSyllables 4 s args TB RX12 := F
  have hx := F.1
  have hb := F.2.1
  have hl : lv_has ls 4 [(0, .ref (B + 146))] := hl
  have hF : Fr (fun b9 k9 => (b9 = 146 ∧ k9 = 9) ∨ (b9 = 151 ∧ 25 ≤ k9 ∧ k9 ≤ 25) ∨ (b9 = 151 ∧ 26 ≤ k9 ∧ k9 ≤ 26) ∨ (b9 = 151 ∧ 27 ≤ k9 ∧ k9 ≤ 27)) M M := Fr.rf
  refine lv_aload_n hx hb dX12_readsSyllables_0 rfl (lv_at hl 0 rfl) ?_
  obtain ⟨z1, bz1, ez1⟩ := IvR.ld (k := 9) hI (show ivr 146 9 = (0, 300) from rfl) (show 146 ≤ 146 ∧ 146 < 159 by decide)
  refine k_Vv F w (As := []) (rest := []) (a := 146) (kd_lt (a := 146) (show kd 146 = (12, 0, 0) from rfl) (by decide)) (sh_12 rfl _ _) rfl (q_X12_blanks (ai := z1) (ez1) ⟨by omega, by omega⟩  hI) gv_X12_179 hv_X12_blanks ⟨(Nat.le_of_ble_eq_true rfl), (Nat.le_of_ble_eq_true rfl)⟩ hl.1 rfl (Nat.le_of_ble_eq_true rfl) ⟨Nat.zero_le _, Nat.zero_le _⟩ dX12_readsSyllables_1 (fun N3 H locs hp w => ?_)
  obtain ⟨⟨nz40, enz40, xz4⟩, hIN3, hFN3⟩ := hp
  have hGN3 := Fr.tr hF hFN3 (S := (fun b9 k9 => (b9 = 146 ∧ k9 = 9) ∨ (b9 = 151 ∧ 25 ≤ k9 ∧ k9 ≤ 25) ∨ (b9 = 151 ∧ 26 ≤ k9 ∧ k9 ≤ 26) ∨ (b9 = 151 ∧ 27 ≤ k9 ∧ k9 ≤ 27))) (fun b k h => by (try dsimp only at h ⊢); rcases h with ⟨rfl, rfl⟩ <;> first | decide | omega)
  have lp4 : ∀ (f : Nat)  (g146_9_4 : Int) (NL4 : Mem), (0 ≤ g146_9_4 ∧ g146_9_4 ≤ 300) → NL4.1 146 9 = zI g146_9_4 → IvR NL4 → Fr (fun b9 k9 => (b9 = 146 ∧ k9 = 9) ∨ (b9 = 151 ∧ 25 ≤ k9 ∧ k9 ≤ 25) ∨ (b9 = 151 ∧ 26 ≤ k9 ∧ k9 ≤ 26) ∨ (b9 = 151 ∧ 27 ≤ k9 ∧ k9 ≤ 27)) NL4 M → (Int.toNat (300 - g146_9_4) < f) → ∀ (H : Heap) (locs : List Loc) (ls : Array Slot), Wd D B cy s s.heap NL4 H locs → lv_has ls 4 [(0, .ref (B + 146))] → W p l e (rmm 2 40) s m args below meth c H locs 0 0 Q (F0 m 4 ls []) := by
    intro f
    induction f with
    | zero => intros; omega
    | succ f ih4 =>
      intro  g146_9_4 NL4 ig146_9_4 eg146_9_4 hIL4 hFL4 hf4 H locs ls w hl
      refine lv_aload_n hx hb dX12_readsSyllables_4 rfl (lv_at hl 0 rfl) ?_
      obtain ⟨z5, bz5, ez5⟩ := IvR.ld (k := 8) hIL4 (show ivr 146 8 = (0, 300) from rfl) (show 146 ≤ 146 ∧ 146 < 159 by decide)
      obtain ⟨z6, bz6, ez6⟩ := IvR.ld (k := (Int.toNat g146_9_4)) hIL4 (show ivr 150 (Int.toNat g146_9_4) = (0, 255) from rfl) (show 146 ≤ 150 ∧ 150 < 159 by decide)
      refine k_Vi F w (As := []) (rest := []) (a := 146) (kd_lt (a := 146) (show kd 146 = (12, 0, 0) from rfl) (by decide)) (sh_12 rfl _ _) rfl (q_X12_here (ai := g146_9_4) (eg146_9_4) ⟨by omega, by omega⟩ (td := z5) (ez5) ⟨by omega, by omega⟩ (tv := z6) (ez6) ⟨by omega, by omega⟩  hIL4) gv_X12_175 hv_X12_here ⟨(Nat.le_of_ble_eq_true rfl), (Nat.le_of_ble_eq_true rfl)⟩ hl.1 rfl (Nat.le_of_ble_eq_true rfl) ⟨Nat.zero_le _, Nat.zero_le _⟩ dX12_readsSyllables_5 (fun r7 N8 H locs hp w => ?_)
      obtain ⟨z9, rfl, bz9, xz9, hMN8⟩ := hp
      rw [hMN8] at w
      refine lv_bipush (v := zI 47) hx hb dX12_readsSyllables_8 (by decide) ?_
      refine z_icmp_eq (tgt := 143) hx hb (by omega) (by omega) dX12_readsSyllables_10 (by decide) (fun c10 => ?_) (fun c10 => ?_)
      · refine lv_aload_n hx hb dX12_readsSyllables_143 rfl (lv_at hl 0 rfl) ?_
        refine lv_dup hx hb dX12_readsSyllables_144 rfl ?_
        refine f_12_9 F w (a := 146) rfl tb_586 dX12_readsSyllables_145 ?_
        refine r_val (v := zI g146_9_4) (eg146_9_4) ?_
        refine lv_iconst (v := zI 1) hx hb dX12_readsSyllables_148 rfl ?_
        refine z_iadd (z := (g146_9_4 + 1)) hx hb dX12_readsSyllables_149 (by omega) ?_
        refine u_12_9 F w (a := 146) rfl tb_586 dX12_readsSyllables_150 (fun H locs w => ?_)
        refine lv_iconst (v := zI 1) hx hb dX12_readsSyllables_153 rfl ?_
        rw [hQ]
        exact e_z F w hr hlocks (nar_z (by omega)) ⟨_, rfl, ⟨by omega, by omega⟩, (IvR.to hIL4 (a := 146) (k := 9) (x := (g146_9_4 + 1)) (show ivr 146 9 = (0, 300) from rfl) ⟨by omega, by omega⟩ ⟨by decide, by decide, by decide, fun q9 => absurd q9 (by decide)⟩), (Fr.to hFL4 (by first | decide | (dsimp only; first | done | decide | omega) | omega))⟩ dX12_readsSyllables_154
      · refine lv_aload_n hx hb dX12_readsSyllables_13 rfl (lv_at hl 0 rfl) ?_
        refine k_Vi F w (As := []) (rest := []) (a := 146) (kd_lt (a := 146) (show kd 146 = (12, 0, 0) from rfl) (by decide)) (sh_12 rfl _ _) rfl (q_X12_here (ai := g146_9_4) (eg146_9_4) ⟨by omega, by omega⟩ (td := z5) (ez5) ⟨by omega, by omega⟩ (tv := z6) (ez6) ⟨by omega, by omega⟩  hIL4) gv_X12_175 hv_X12_here ⟨(Nat.le_of_ble_eq_true rfl), (Nat.le_of_ble_eq_true rfl)⟩ hl.1 rfl (Nat.le_of_ble_eq_true rfl) ⟨Nat.zero_le _, Nat.zero_le _⟩ dX12_readsSyllables_14 (fun r11 N12 H locs hp w => ?_)
        obtain ⟨z13, rfl, bz13, xz13, hMN12⟩ := hp
        rw [hMN12] at w
        refine lv_bipush (v := zI 45) hx hb dX12_readsSyllables_17 (by decide) ?_
        refine z_icmp_ne (tgt := 26) hx hb (by omega) (by omega) dX12_readsSyllables_19 (by decide) (fun c14 => ?_) (fun c14 => ?_)
        · refine lv_iconst (v := zI 0) hx hb dX12_readsSyllables_26 rfl ?_
          refine lv_istore_n (lv' := [(1, .int (zI 0)), (0, .ref (B + 146))]) hx hb dX12_readsSyllables_27 rfl hl (by decide) rfl (fun ls hl => ?_)
          refine lv_iload_n hx hb dX12_readsSyllables_28 rfl (lv_at hl 0 rfl) ?_
          refine z_if_eq (tgt := 46) hx hb (by omega) dX12_readsSyllables_29 (by decide) (fun c15 => ?_) (fun c15 => False.elim (by omega))
          refine lv_aload_n hx hb dX12_readsSyllables_46 rfl (lv_at hl 1 rfl) ?_
          refine k_Vi F w (As := []) (rest := []) (a := 146) (kd_lt (a := 146) (show kd 146 = (12, 0, 0) from rfl) (by decide)) (sh_12 rfl _ _) rfl (q_X12_here (ai := g146_9_4) (eg146_9_4) ⟨by omega, by omega⟩ (td := z5) (ez5) ⟨by omega, by omega⟩ (tv := z6) (ez6) ⟨by omega, by omega⟩  hIL4) gv_X12_175 hv_X12_here ⟨(Nat.le_of_ble_eq_true rfl), (Nat.le_of_ble_eq_true rfl)⟩ hl.1 rfl (Nat.le_of_ble_eq_true rfl) ⟨Nat.zero_le _, Nat.zero_le _⟩ dX12_readsSyllables_47 (fun r16 N17 H locs hp w => ?_)
          obtain ⟨z18, rfl, bz18, xz18, hMN17⟩ := hp
          rw [hMN17] at w
          refine lv_istore_n (lv' := [(2, .int (zI z18)), (1, .int (zI 0)), (0, .ref (B + 146))]) hx hb dX12_readsSyllables_50 rfl hl (by decide) rfl (fun ls hl => ?_)
          refine lv_aload_n hx hb dX12_readsSyllables_51 rfl (lv_at hl 2 rfl) ?_
          refine f_12_10 F w (a := 146) rfl tb_595 dX12_readsSyllables_52 ?_
          refine lv_bipush (v := zI 25) hx hb dX12_readsSyllables_55 (by decide) ?_
          refine g_iald F w (a := 151) rfl (j := 25) ⟨by decide, by decide⟩ (by omega) dX12_readsSyllables_57 ?_
          obtain ⟨z19, bz19, ez19⟩ := IvR.ld (k := 25) hIL4 (show ivr 151 25 = (0, 12) from rfl) (show 146 ≤ 151 ∧ 151 < 159 by decide)
          refine r_val ez19 ?_
          refine lv_istore_n (lv' := [(3, .int (zI z19)), (2, .int (zI z18)), (1, .int (zI 0)), (0, .ref (B + 146))]) hx hb dX12_readsSyllables_58 rfl hl (by decide) rfl (fun ls hl => ?_)
          refine lv_iload_n hx hb dX12_readsSyllables_59 rfl (lv_at hl 1 rfl) ?_
          refine lv_bipush (v := zI 111) hx hb dX12_readsSyllables_60 (by decide) ?_
          refine z_icmp_eq (tgt := 71) hx hb (by omega) (by omega) dX12_readsSyllables_62 (by decide) (fun c20 => ?_) (fun c20 => ?_)
          · refine lv_iload_n hx hb dX12_readsSyllables_71 rfl (lv_at hl 0 rfl) ?_
            refine lv_bipush (v := zI 12) hx hb dX12_readsSyllables_72 (by decide) ?_
            refine z_icmp_ne (tgt := 79) hx hb (by omega) (by omega) dX12_readsSyllables_74 (by decide) (fun c21 => ?_) (fun c21 => ?_)
            · refine lv_iload_n hx hb dX12_readsSyllables_79 rfl (lv_at hl 1 rfl) ?_
              refine lv_bipush (v := zI 79) hx hb dX12_readsSyllables_80 (by decide) ?_
              refine z_icmp_ne (tgt := 98) hx hb (by omega) (by omega) dX12_readsSyllables_82 (by decide) (fun c22 => ?_) (fun c22 => False.elim (by omega))
              refine lv_iload_n hx hb dX12_readsSyllables_98 rfl (lv_at hl 2 rfl) ?_
              refine z_if_eq (tgt := 115) hx hb (by omega) dX12_readsSyllables_99 (by decide) (fun c23 => ?_) (fun c23 => False.elim (by omega))
              refine lv_aload_n hx hb dX12_readsSyllables_115 rfl (lv_at hl 3 rfl) ?_
              refine f_12_10 F w (a := 146) rfl tb_595 dX12_readsSyllables_116 ?_
              refine lv_bipush (v := zI 25) hx hb dX12_readsSyllables_119 (by decide) ?_
              refine lv_dup2_11 hx hb dX12_readsSyllables_121 rfl rfl ?_
              refine g_iald F w (a := 151) rfl (j := 25) ⟨by decide, by decide⟩ (by omega) dX12_readsSyllables_122 ?_
              refine r_val (v := zI z19) (ez19) ?_
              refine lv_iconst (v := zI 1) hx hb dX12_readsSyllables_123 rfl ?_
              refine z_iadd (z := (z19 + 1)) hx hb dX12_readsSyllables_124 (by omega) ?_
              refine g_iast F w (a := 151) rfl (j := 25) ⟨by decide, by decide⟩ (by omega) dX12_readsSyllables_125 (fun H locs w => ?_)
              refine lv_aload_n hx hb dX12_readsSyllables_126 rfl (lv_at hl 3 rfl) ?_
              refine lv_dup hx hb dX12_readsSyllables_127 rfl ?_
              refine f_12_9 F w (a := 146) rfl tb_586 dX12_readsSyllables_128 ?_
              refine r_val (v := zI g146_9_4) ((st_ne (Or.inl (by decide))).trans eg146_9_4) ?_
              refine lv_iconst (v := zI 1) hx hb dX12_readsSyllables_131 rfl ?_
              refine z_iadd (z := (g146_9_4 + 1)) hx hb dX12_readsSyllables_132 (by omega) ?_
              refine u_12_9 F w (a := 146) rfl tb_586 dX12_readsSyllables_133 (fun H locs w => ?_)
              refine lv_aload_n hx hb dX12_readsSyllables_136 rfl (lv_at hl 3 rfl) ?_
              refine k_Vv F w (As := []) (rest := []) (a := 146) (kd_lt (a := 146) (show kd 146 = (12, 0, 0) from rfl) (by decide)) (sh_12 rfl _ _) rfl (q_X12_blanks (ai := (g146_9_4 + 1)) (st_at) ⟨by omega, by omega⟩  (IvR.to (IvR.to hIL4 (a := 151) (k := 25) (x := (z19 + 1)) (show ivr 151 25 = (0, 12) from rfl) ⟨by omega, by omega⟩ ⟨by decide, by decide, by decide, fun _ => ⟨by omega, by omega⟩⟩) (a := 146) (k := 9) (x := (g146_9_4 + 1)) (show ivr 146 9 = (0, 300) from rfl) ⟨by omega, by omega⟩ ⟨by decide, by decide, by decide, fun q9 => absurd q9 (by decide)⟩)) gv_X12_179 hv_X12_blanks ⟨(Nat.le_of_ble_eq_true rfl), (Nat.le_of_ble_eq_true rfl)⟩ hl.1 rfl (Nat.le_of_ble_eq_true rfl) ⟨Nat.zero_le _, Nat.zero_le _⟩ dX12_readsSyllables_137 (fun N25 H locs hp w => ?_)
              obtain ⟨⟨nz260, enz260, xz26⟩, hIN25, hFN25⟩ := hp
              have hGN25 := Fr.tr (Fr.to (Fr.to hFL4 (by first | decide | (dsimp only; first | done | decide | omega) | omega)) (by first | decide | (dsimp only; first | done | decide | omega) | omega)) hFN25 (S := (fun b9 k9 => (b9 = 146 ∧ k9 = 9) ∨ (b9 = 151 ∧ 25 ≤ k9 ∧ k9 ≤ 25) ∨ (b9 = 151 ∧ 26 ≤ k9 ∧ k9 ≤ 26) ∨ (b9 = 151 ∧ 27 ≤ k9 ∧ k9 ≤ 27))) (fun b k h => by (try dsimp only at h ⊢); rcases h with ⟨rfl, rfl⟩ <;> first | decide | omega)
              have kn27 : N25.1 146 8 = zI z5 := (hFN25 146 8 (by first | decide | (dsimp only; first | done | decide | omega) | omega)).trans ((st_ne (Or.inr (by decide))).trans ((st_ne (Or.inl (by decide))).trans ez5))
              have kn28 : N25.1 151 25 = zI (z19 + 1) := (hFN25 151 25 (by first | decide | (dsimp only; first | done | decide | omega) | omega)).trans ((st_ne (Or.inl (by decide))).trans st_at)
              refine lv_goto (tgt := 4) hx hb dX12_readsSyllables_140 (by decide) ?_
              exact ih4 nz260 N25  (by omega) (enz260)  hIN25 hGN25 (by omega) _ _ _ w (lv_sub hl [3] rfl)
            · refine lv_iconst (v := zI 0) hx hb dX12_readsSyllables_77 rfl ?_
              rw [hQ]
              exact e_z F w hr hlocks (nar_z (by omega)) ⟨_, rfl, ⟨by omega, by omega⟩, hIL4, hFL4⟩ dX12_readsSyllables_78
          · refine lv_iload_n hx hb dX12_readsSyllables_65 rfl (lv_at hl 1 rfl) ?_
            refine lv_bipush (v := zI 79) hx hb dX12_readsSyllables_66 (by decide) ?_
            refine z_icmp_ne (tgt := 77) hx hb (by omega) (by omega) dX12_readsSyllables_68 (by decide) (fun c29 => ?_) (fun c29 => ?_)
            · refine lv_iconst (v := zI 0) hx hb dX12_readsSyllables_77 rfl ?_
              rw [hQ]
              exact e_z F w hr hlocks (nar_z (by omega)) ⟨_, rfl, ⟨by omega, by omega⟩, hIL4, hFL4⟩ dX12_readsSyllables_78
            · refine lv_iload_n hx hb dX12_readsSyllables_71 rfl (lv_at hl 0 rfl) ?_
              refine lv_bipush (v := zI 12) hx hb dX12_readsSyllables_72 (by decide) ?_
              refine z_icmp_ne (tgt := 79) hx hb (by omega) (by omega) dX12_readsSyllables_74 (by decide) (fun c30 => ?_) (fun c30 => ?_)
              · refine lv_iload_n hx hb dX12_readsSyllables_79 rfl (lv_at hl 1 rfl) ?_
                refine lv_bipush (v := zI 79) hx hb dX12_readsSyllables_80 (by decide) ?_
                refine z_icmp_ne (tgt := 98) hx hb (by omega) (by omega) dX12_readsSyllables_82 (by decide) (fun c31 => False.elim (by omega)) (fun c31 => ?_)
                refine lv_aload_n hx hb dX12_readsSyllables_85 rfl (lv_at hl 3 rfl) ?_
                refine f_12_10 F w (a := 146) rfl tb_595 dX12_readsSyllables_86 ?_
                refine lv_bipush (v := zI 26) hx hb dX12_readsSyllables_89 (by decide) ?_
                refine lv_dup2_11 hx hb dX12_readsSyllables_91 rfl rfl ?_
                refine g_iald F w (a := 151) rfl (j := 26) ⟨by decide, by decide⟩ (by omega) dX12_readsSyllables_92 ?_
                obtain ⟨z32, bz32, ez32⟩ := IvR.ld (k := 26) hIL4 (show ivr 151 26 = (0, 4095) from rfl) (show 146 ≤ 151 ∧ 151 < 159 by decide)
                refine r_val ez32 ?_
                refine lv_iconst (v := zI 1) hx hb dX12_readsSyllables_93 rfl ?_
                refine lv_iload_n hx hb dX12_readsSyllables_94 rfl (lv_at hl 0 rfl) ?_
                obtain ⟨z33, bz33, x0z33, ez33⟩ := shl_ex 1 z19
                refine lv_ishl hx hb dX12_readsSyllables_95 ?_
                refine r_val ez33 ?_
                obtain ⟨z34, bz34, x0z34, ez34⟩ := or_ex z32 z33
                refine lv_ior hx hb dX12_readsSyllables_96 ?_
                refine r_val ez34 ?_
                refine g_iast F w (a := 151) rfl (j := 26) ⟨by decide, by decide⟩ (by omega) dX12_readsSyllables_97 (fun H locs w => ?_)
                refine lv_iload_n hx hb dX12_readsSyllables_98 rfl (lv_at hl 2 rfl) ?_
                refine z_if_eq (tgt := 115) hx hb (by omega) dX12_readsSyllables_99 (by decide) (fun c35 => ?_) (fun c35 => False.elim (by omega))
                refine lv_aload_n hx hb dX12_readsSyllables_115 rfl (lv_at hl 3 rfl) ?_
                refine f_12_10 F w (a := 146) rfl tb_595 dX12_readsSyllables_116 ?_
                refine lv_bipush (v := zI 25) hx hb dX12_readsSyllables_119 (by decide) ?_
                refine lv_dup2_11 hx hb dX12_readsSyllables_121 rfl rfl ?_
                refine g_iald F w (a := 151) rfl (j := 25) ⟨by decide, by decide⟩ (by omega) dX12_readsSyllables_122 ?_
                refine r_val (v := zI z19) ((st_ne (Or.inr (by decide))).trans ez19) ?_
                refine lv_iconst (v := zI 1) hx hb dX12_readsSyllables_123 rfl ?_
                refine z_iadd (z := (z19 + 1)) hx hb dX12_readsSyllables_124 (by omega) ?_
                refine g_iast F w (a := 151) rfl (j := 25) ⟨by decide, by decide⟩ (by omega) dX12_readsSyllables_125 (fun H locs w => ?_)
                refine lv_aload_n hx hb dX12_readsSyllables_126 rfl (lv_at hl 3 rfl) ?_
                refine lv_dup hx hb dX12_readsSyllables_127 rfl ?_
                refine f_12_9 F w (a := 146) rfl tb_586 dX12_readsSyllables_128 ?_
                refine r_val (v := zI g146_9_4) ((st_ne (Or.inl (by decide))).trans ((st_ne (Or.inl (by decide))).trans eg146_9_4)) ?_
                refine lv_iconst (v := zI 1) hx hb dX12_readsSyllables_131 rfl ?_
                refine z_iadd (z := (g146_9_4 + 1)) hx hb dX12_readsSyllables_132 (by omega) ?_
                refine u_12_9 F w (a := 146) rfl tb_586 dX12_readsSyllables_133 (fun H locs w => ?_)
                refine lv_aload_n hx hb dX12_readsSyllables_136 rfl (lv_at hl 3 rfl) ?_
                refine k_Vv F w (As := []) (rest := []) (a := 146) (kd_lt (a := 146) (show kd 146 = (12, 0, 0) from rfl) (by decide)) (sh_12 rfl _ _) rfl (q_X12_blanks (ai := (g146_9_4 + 1)) (st_at) ⟨by omega, by omega⟩  (IvR.to (IvR.to (IvR.to hIL4 (a := 151) (k := 26) (x := z34) (show ivr 151 26 = (0, 4095) from rfl) ⟨by omega, by omega⟩ ⟨by decide, by decide, by decide, fun _ => ⟨by omega, by omega⟩⟩) (a := 151) (k := 25) (x := (z19 + 1)) (show ivr 151 25 = (0, 12) from rfl) ⟨by omega, by omega⟩ ⟨by decide, by decide, by decide, fun _ => ⟨by omega, by omega⟩⟩) (a := 146) (k := 9) (x := (g146_9_4 + 1)) (show ivr 146 9 = (0, 300) from rfl) ⟨by omega, by omega⟩ ⟨by decide, by decide, by decide, fun q9 => absurd q9 (by decide)⟩)) gv_X12_179 hv_X12_blanks ⟨(Nat.le_of_ble_eq_true rfl), (Nat.le_of_ble_eq_true rfl)⟩ hl.1 rfl (Nat.le_of_ble_eq_true rfl) ⟨Nat.zero_le _, Nat.zero_le _⟩ dX12_readsSyllables_137 (fun N37 H locs hp w => ?_)
                obtain ⟨⟨nz380, enz380, xz38⟩, hIN37, hFN37⟩ := hp
                have hGN37 := Fr.tr (Fr.to (Fr.to (Fr.to hFL4 (by first | decide | (dsimp only; first | done | decide | omega) | omega)) (by first | decide | (dsimp only; first | done | decide | omega) | omega)) (by first | decide | (dsimp only; first | done | decide | omega) | omega)) hFN37 (S := (fun b9 k9 => (b9 = 146 ∧ k9 = 9) ∨ (b9 = 151 ∧ 25 ≤ k9 ∧ k9 ≤ 25) ∨ (b9 = 151 ∧ 26 ≤ k9 ∧ k9 ≤ 26) ∨ (b9 = 151 ∧ 27 ≤ k9 ∧ k9 ≤ 27))) (fun b k h => by (try dsimp only at h ⊢); rcases h with ⟨rfl, rfl⟩ <;> first | decide | omega)
                have kn39 : N37.1 146 8 = zI z5 := (hFN37 146 8 (by first | decide | (dsimp only; first | done | decide | omega) | omega)).trans ((st_ne (Or.inr (by decide))).trans ((st_ne (Or.inl (by decide))).trans ((st_ne (Or.inl (by decide))).trans ez5)))
                have kn40 : N37.1 151 25 = zI (z19 + 1) := (hFN37 151 25 (by first | decide | (dsimp only; first | done | decide | omega) | omega)).trans ((st_ne (Or.inl (by decide))).trans st_at)
                have kn41 : N37.1 151 26 = zI z34 := (hFN37 151 26 (by first | decide | (dsimp only; first | done | decide | omega) | omega)).trans ((st_ne (Or.inl (by decide))).trans ((st_ne (Or.inr (by decide))).trans st_at))
                refine lv_goto (tgt := 4) hx hb dX12_readsSyllables_140 (by decide) ?_
                exact ih4 nz380 N37  (by omega) (enz380)  hIN37 hGN37 (by omega) _ _ _ w (lv_sub hl [3] rfl)
              · refine lv_iconst (v := zI 0) hx hb dX12_readsSyllables_77 rfl ?_
                rw [hQ]
                exact e_z F w hr hlocks (nar_z (by omega)) ⟨_, rfl, ⟨by omega, by omega⟩, hIL4, hFL4⟩ dX12_readsSyllables_78
        · refine lv_iconst (v := zI 1) hx hb dX12_readsSyllables_22 rfl ?_
          refine lv_goto (tgt := 27) hx hb dX12_readsSyllables_23 (by decide) ?_
          refine lv_istore_n (lv' := [(1, .int (zI 1)), (0, .ref (B + 146))]) hx hb dX12_readsSyllables_27 rfl hl (by decide) rfl (fun ls hl => ?_)
          refine lv_iload_n hx hb dX12_readsSyllables_28 rfl (lv_at hl 0 rfl) ?_
          refine z_if_eq (tgt := 46) hx hb (by omega) dX12_readsSyllables_29 (by decide) (fun c42 => False.elim (by omega)) (fun c42 => ?_)
          refine lv_aload_n hx hb dX12_readsSyllables_32 rfl (lv_at hl 1 rfl) ?_
          refine lv_dup hx hb dX12_readsSyllables_33 rfl ?_
          refine f_12_9 F w (a := 146) rfl tb_586 dX12_readsSyllables_34 ?_
          refine r_val (v := zI g146_9_4) (eg146_9_4) ?_
          refine lv_iconst (v := zI 1) hx hb dX12_readsSyllables_37 rfl ?_
          refine z_iadd (z := (g146_9_4 + 1)) hx hb dX12_readsSyllables_38 (by omega) ?_
          refine u_12_9 F w (a := 146) rfl tb_586 dX12_readsSyllables_39 (fun H locs w => ?_)
          refine lv_aload_n hx hb dX12_readsSyllables_42 rfl (lv_at hl 1 rfl) ?_
          refine k_Vv F w (As := []) (rest := []) (a := 146) (kd_lt (a := 146) (show kd 146 = (12, 0, 0) from rfl) (by decide)) (sh_12 rfl _ _) rfl (q_X12_blanks (ai := (g146_9_4 + 1)) (st_at) ⟨by omega, by omega⟩  (IvR.to hIL4 (a := 146) (k := 9) (x := (g146_9_4 + 1)) (show ivr 146 9 = (0, 300) from rfl) ⟨by omega, by omega⟩ ⟨by decide, by decide, by decide, fun q9 => absurd q9 (by decide)⟩)) gv_X12_179 hv_X12_blanks ⟨(Nat.le_of_ble_eq_true rfl), (Nat.le_of_ble_eq_true rfl)⟩ hl.1 rfl (Nat.le_of_ble_eq_true rfl) ⟨Nat.zero_le _, Nat.zero_le _⟩ dX12_readsSyllables_43 (fun N44 H locs hp w => ?_)
          obtain ⟨⟨nz450, enz450, xz45⟩, hIN44, hFN44⟩ := hp
          have hGN44 := Fr.tr (Fr.to hFL4 (by first | decide | (dsimp only; first | done | decide | omega) | omega)) hFN44 (S := (fun b9 k9 => (b9 = 146 ∧ k9 = 9) ∨ (b9 = 151 ∧ 25 ≤ k9 ∧ k9 ≤ 25) ∨ (b9 = 151 ∧ 26 ≤ k9 ∧ k9 ≤ 26) ∨ (b9 = 151 ∧ 27 ≤ k9 ∧ k9 ≤ 27))) (fun b k h => by (try dsimp only at h ⊢); rcases h with ⟨rfl, rfl⟩ <;> first | decide | omega)
          have kn46 : N44.1 146 8 = zI z5 := (hFN44 146 8 (by first | decide | (dsimp only; first | done | decide | omega) | omega)).trans ((st_ne (Or.inr (by decide))).trans ez5)
          refine lv_aload_n hx hb dX12_readsSyllables_46 rfl (lv_at hl 1 rfl) ?_
          obtain ⟨z47, bz47, ez47⟩ := IvR.ld (k := (Int.toNat nz450)) hIN44 (show ivr 150 (Int.toNat nz450) = (0, 255) from rfl) (show 146 ≤ 150 ∧ 150 < 159 by decide)
          refine k_Vi F w (As := []) (rest := []) (a := 146) (kd_lt (a := 146) (show kd 146 = (12, 0, 0) from rfl) (by decide)) (sh_12 rfl _ _) rfl (q_X12_here (ai := nz450) (enz450) ⟨by omega, by omega⟩ (td := z5) (kn46) ⟨by omega, by omega⟩ (tv := z47) (ez47) ⟨by omega, by omega⟩  hIN44) gv_X12_175 hv_X12_here ⟨(Nat.le_of_ble_eq_true rfl), (Nat.le_of_ble_eq_true rfl)⟩ hl.1 rfl (Nat.le_of_ble_eq_true rfl) ⟨Nat.zero_le _, Nat.zero_le _⟩ dX12_readsSyllables_47 (fun r48 N49 H locs hp w => ?_)
          obtain ⟨z50, rfl, bz50, xz50, hMN49⟩ := hp
          rw [hMN49] at w
          refine lv_istore_n (lv' := [(2, .int (zI z50)), (1, .int (zI 1)), (0, .ref (B + 146))]) hx hb dX12_readsSyllables_50 rfl hl (by decide) rfl (fun ls hl => ?_)
          refine lv_aload_n hx hb dX12_readsSyllables_51 rfl (lv_at hl 2 rfl) ?_
          refine f_12_10 F w (a := 146) rfl tb_595 dX12_readsSyllables_52 ?_
          refine lv_bipush (v := zI 25) hx hb dX12_readsSyllables_55 (by decide) ?_
          refine g_iald F w (a := 151) rfl (j := 25) ⟨by decide, by decide⟩ (by omega) dX12_readsSyllables_57 ?_
          obtain ⟨z51, bz51, ez51⟩ := IvR.ld (k := 25) hIN44 (show ivr 151 25 = (0, 12) from rfl) (show 146 ≤ 151 ∧ 151 < 159 by decide)
          refine r_val ez51 ?_
          refine lv_istore_n (lv' := [(3, .int (zI z51)), (2, .int (zI z50)), (1, .int (zI 1)), (0, .ref (B + 146))]) hx hb dX12_readsSyllables_58 rfl hl (by decide) rfl (fun ls hl => ?_)
          refine lv_iload_n hx hb dX12_readsSyllables_59 rfl (lv_at hl 1 rfl) ?_
          refine lv_bipush (v := zI 111) hx hb dX12_readsSyllables_60 (by decide) ?_
          refine z_icmp_eq (tgt := 71) hx hb (by omega) (by omega) dX12_readsSyllables_62 (by decide) (fun c52 => ?_) (fun c52 => ?_)
          · refine lv_iload_n hx hb dX12_readsSyllables_71 rfl (lv_at hl 0 rfl) ?_
            refine lv_bipush (v := zI 12) hx hb dX12_readsSyllables_72 (by decide) ?_
            refine z_icmp_ne (tgt := 79) hx hb (by omega) (by omega) dX12_readsSyllables_74 (by decide) (fun c53 => ?_) (fun c53 => ?_)
            · refine lv_iload_n hx hb dX12_readsSyllables_79 rfl (lv_at hl 1 rfl) ?_
              refine lv_bipush (v := zI 79) hx hb dX12_readsSyllables_80 (by decide) ?_
              refine z_icmp_ne (tgt := 98) hx hb (by omega) (by omega) dX12_readsSyllables_82 (by decide) (fun c54 => ?_) (fun c54 => False.elim (by omega))
              refine lv_iload_n hx hb dX12_readsSyllables_98 rfl (lv_at hl 2 rfl) ?_
              refine z_if_eq (tgt := 115) hx hb (by omega) dX12_readsSyllables_99 (by decide) (fun c55 => False.elim (by omega)) (fun c55 => ?_)
              refine lv_aload_n hx hb dX12_readsSyllables_102 rfl (lv_at hl 3 rfl) ?_
              refine f_12_10 F w (a := 146) rfl tb_595 dX12_readsSyllables_103 ?_
              refine lv_bipush (v := zI 27) hx hb dX12_readsSyllables_106 (by decide) ?_
              refine lv_dup2_11 hx hb dX12_readsSyllables_108 rfl rfl ?_
              refine g_iald F w (a := 151) rfl (j := 27) ⟨by decide, by decide⟩ (by omega) dX12_readsSyllables_109 ?_
              obtain ⟨z56, bz56, ez56⟩ := IvR.ld (k := 27) hIN44 (show ivr 151 27 = (0, 4095) from rfl) (show 146 ≤ 151 ∧ 151 < 159 by decide)
              refine r_val ez56 ?_
              refine lv_iconst (v := zI 1) hx hb dX12_readsSyllables_110 rfl ?_
              refine lv_iload_n hx hb dX12_readsSyllables_111 rfl (lv_at hl 0 rfl) ?_
              obtain ⟨z57, bz57, x0z57, ez57⟩ := shl_ex 1 z51
              refine lv_ishl hx hb dX12_readsSyllables_112 ?_
              refine r_val ez57 ?_
              obtain ⟨z58, bz58, x0z58, ez58⟩ := or_ex z56 z57
              refine lv_ior hx hb dX12_readsSyllables_113 ?_
              refine r_val ez58 ?_
              refine g_iast F w (a := 151) rfl (j := 27) ⟨by decide, by decide⟩ (by omega) dX12_readsSyllables_114 (fun H locs w => ?_)
              refine lv_aload_n hx hb dX12_readsSyllables_115 rfl (lv_at hl 3 rfl) ?_
              refine f_12_10 F w (a := 146) rfl tb_595 dX12_readsSyllables_116 ?_
              refine lv_bipush (v := zI 25) hx hb dX12_readsSyllables_119 (by decide) ?_
              refine lv_dup2_11 hx hb dX12_readsSyllables_121 rfl rfl ?_
              refine g_iald F w (a := 151) rfl (j := 25) ⟨by decide, by decide⟩ (by omega) dX12_readsSyllables_122 ?_
              refine r_val (v := zI z51) ((st_ne (Or.inr (by decide))).trans ez51) ?_
              refine lv_iconst (v := zI 1) hx hb dX12_readsSyllables_123 rfl ?_
              refine z_iadd (z := (z51 + 1)) hx hb dX12_readsSyllables_124 (by omega) ?_
              refine g_iast F w (a := 151) rfl (j := 25) ⟨by decide, by decide⟩ (by omega) dX12_readsSyllables_125 (fun H locs w => ?_)
              refine lv_aload_n hx hb dX12_readsSyllables_126 rfl (lv_at hl 3 rfl) ?_
              refine lv_dup hx hb dX12_readsSyllables_127 rfl ?_
              refine f_12_9 F w (a := 146) rfl tb_586 dX12_readsSyllables_128 ?_
              refine r_val (v := zI nz450) ((st_ne (Or.inl (by decide))).trans ((st_ne (Or.inl (by decide))).trans enz450)) ?_
              refine lv_iconst (v := zI 1) hx hb dX12_readsSyllables_131 rfl ?_
              refine z_iadd (z := (nz450 + 1)) hx hb dX12_readsSyllables_132 (by omega) ?_
              refine u_12_9 F w (a := 146) rfl tb_586 dX12_readsSyllables_133 (fun H locs w => ?_)
              refine lv_aload_n hx hb dX12_readsSyllables_136 rfl (lv_at hl 3 rfl) ?_
              refine k_Vv F w (As := []) (rest := []) (a := 146) (kd_lt (a := 146) (show kd 146 = (12, 0, 0) from rfl) (by decide)) (sh_12 rfl _ _) rfl (q_X12_blanks (ai := (nz450 + 1)) (st_at) ⟨by omega, by omega⟩  (IvR.to (IvR.to (IvR.to hIN44 (a := 151) (k := 27) (x := z58) (show ivr 151 27 = (0, 4095) from rfl) ⟨by omega, by omega⟩ ⟨by decide, by decide, by decide, fun _ => ⟨by omega, by omega⟩⟩) (a := 151) (k := 25) (x := (z51 + 1)) (show ivr 151 25 = (0, 12) from rfl) ⟨by omega, by omega⟩ ⟨by decide, by decide, by decide, fun _ => ⟨by omega, by omega⟩⟩) (a := 146) (k := 9) (x := (nz450 + 1)) (show ivr 146 9 = (0, 300) from rfl) ⟨by omega, by omega⟩ ⟨by decide, by decide, by decide, fun q9 => absurd q9 (by decide)⟩)) gv_X12_179 hv_X12_blanks ⟨(Nat.le_of_ble_eq_true rfl), (Nat.le_of_ble_eq_true rfl)⟩ hl.1 rfl (Nat.le_of_ble_eq_true rfl) ⟨Nat.zero_le _, Nat.zero_le _⟩ dX12_readsSyllables_137 (fun N60 H locs hp w => ?_)
              obtain ⟨⟨nz610, enz610, xz61⟩, hIN60, hFN60⟩ := hp
              have hGN60 := Fr.tr (Fr.to (Fr.to (Fr.to hGN44 (by first | decide | (dsimp only; first | done | decide | omega) | omega)) (by first | decide | (dsimp only; first | done | decide | omega) | omega)) (by first | decide | (dsimp only; first | done | decide | omega) | omega)) hFN60 (S := (fun b9 k9 => (b9 = 146 ∧ k9 = 9) ∨ (b9 = 151 ∧ 25 ≤ k9 ∧ k9 ≤ 25) ∨ (b9 = 151 ∧ 26 ≤ k9 ∧ k9 ≤ 26) ∨ (b9 = 151 ∧ 27 ≤ k9 ∧ k9 ≤ 27))) (fun b k h => by (try dsimp only at h ⊢); rcases h with ⟨rfl, rfl⟩ <;> first | decide | omega)
              have kn62 : N60.1 146 8 = zI z5 := (hFN60 146 8 (by first | decide | (dsimp only; first | done | decide | omega) | omega)).trans ((st_ne (Or.inr (by decide))).trans ((st_ne (Or.inl (by decide))).trans ((st_ne (Or.inl (by decide))).trans kn46)))
              have kn63 : N60.1 151 25 = zI (z51 + 1) := (hFN60 151 25 (by first | decide | (dsimp only; first | done | decide | omega) | omega)).trans ((st_ne (Or.inl (by decide))).trans st_at)
              have kn64 : N60.1 151 27 = zI z58 := (hFN60 151 27 (by first | decide | (dsimp only; first | done | decide | omega) | omega)).trans ((st_ne (Or.inl (by decide))).trans ((st_ne (Or.inr (by decide))).trans st_at))
              refine lv_goto (tgt := 4) hx hb dX12_readsSyllables_140 (by decide) ?_
              exact ih4 nz610 N60  (by omega) (enz610)  hIN60 hGN60 (by omega) _ _ _ w (lv_sub hl [3] rfl)
            · refine lv_iconst (v := zI 0) hx hb dX12_readsSyllables_77 rfl ?_
              rw [hQ]
              exact e_z F w hr hlocks (nar_z (by omega)) ⟨_, rfl, ⟨by omega, by omega⟩, hIN44, hGN44⟩ dX12_readsSyllables_78
          · refine lv_iload_n hx hb dX12_readsSyllables_65 rfl (lv_at hl 1 rfl) ?_
            refine lv_bipush (v := zI 79) hx hb dX12_readsSyllables_66 (by decide) ?_
            refine z_icmp_ne (tgt := 77) hx hb (by omega) (by omega) dX12_readsSyllables_68 (by decide) (fun c65 => ?_) (fun c65 => ?_)
            · refine lv_iconst (v := zI 0) hx hb dX12_readsSyllables_77 rfl ?_
              rw [hQ]
              exact e_z F w hr hlocks (nar_z (by omega)) ⟨_, rfl, ⟨by omega, by omega⟩, hIN44, hGN44⟩ dX12_readsSyllables_78
            · refine lv_iload_n hx hb dX12_readsSyllables_71 rfl (lv_at hl 0 rfl) ?_
              refine lv_bipush (v := zI 12) hx hb dX12_readsSyllables_72 (by decide) ?_
              refine z_icmp_ne (tgt := 79) hx hb (by omega) (by omega) dX12_readsSyllables_74 (by decide) (fun c66 => ?_) (fun c66 => ?_)
              · refine lv_iload_n hx hb dX12_readsSyllables_79 rfl (lv_at hl 1 rfl) ?_
                refine lv_bipush (v := zI 79) hx hb dX12_readsSyllables_80 (by decide) ?_
                refine z_icmp_ne (tgt := 98) hx hb (by omega) (by omega) dX12_readsSyllables_82 (by decide) (fun c67 => False.elim (by omega)) (fun c67 => ?_)
                refine lv_aload_n hx hb dX12_readsSyllables_85 rfl (lv_at hl 3 rfl) ?_
                refine f_12_10 F w (a := 146) rfl tb_595 dX12_readsSyllables_86 ?_
                refine lv_bipush (v := zI 26) hx hb dX12_readsSyllables_89 (by decide) ?_
                refine lv_dup2_11 hx hb dX12_readsSyllables_91 rfl rfl ?_
                refine g_iald F w (a := 151) rfl (j := 26) ⟨by decide, by decide⟩ (by omega) dX12_readsSyllables_92 ?_
                obtain ⟨z68, bz68, ez68⟩ := IvR.ld (k := 26) hIN44 (show ivr 151 26 = (0, 4095) from rfl) (show 146 ≤ 151 ∧ 151 < 159 by decide)
                refine r_val ez68 ?_
                refine lv_iconst (v := zI 1) hx hb dX12_readsSyllables_93 rfl ?_
                refine lv_iload_n hx hb dX12_readsSyllables_94 rfl (lv_at hl 0 rfl) ?_
                obtain ⟨z69, bz69, x0z69, ez69⟩ := shl_ex 1 z51
                refine lv_ishl hx hb dX12_readsSyllables_95 ?_
                refine r_val ez69 ?_
                obtain ⟨z70, bz70, x0z70, ez70⟩ := or_ex z68 z69
                refine lv_ior hx hb dX12_readsSyllables_96 ?_
                refine r_val ez70 ?_
                refine g_iast F w (a := 151) rfl (j := 26) ⟨by decide, by decide⟩ (by omega) dX12_readsSyllables_97 (fun H locs w => ?_)
                refine lv_iload_n hx hb dX12_readsSyllables_98 rfl (lv_at hl 2 rfl) ?_
                refine z_if_eq (tgt := 115) hx hb (by omega) dX12_readsSyllables_99 (by decide) (fun c71 => False.elim (by omega)) (fun c71 => ?_)
                refine lv_aload_n hx hb dX12_readsSyllables_102 rfl (lv_at hl 3 rfl) ?_
                refine f_12_10 F w (a := 146) rfl tb_595 dX12_readsSyllables_103 ?_
                refine lv_bipush (v := zI 27) hx hb dX12_readsSyllables_106 (by decide) ?_
                refine lv_dup2_11 hx hb dX12_readsSyllables_108 rfl rfl ?_
                refine g_iald F w (a := 151) rfl (j := 27) ⟨by decide, by decide⟩ (by omega) dX12_readsSyllables_109 ?_
                obtain ⟨z72, bz72, ez72⟩ := IvR.ld (k := 27) (IvR.to hIN44 (a := 151) (k := 26) (x := z70) (show ivr 151 26 = (0, 4095) from rfl) ⟨by omega, by omega⟩ ⟨by decide, by decide, by decide, fun _ => ⟨by omega, by omega⟩⟩) (show ivr 151 27 = (0, 4095) from rfl) (show 146 ≤ 151 ∧ 151 < 159 by decide)
                refine r_val ez72 ?_
                refine lv_iconst (v := zI 1) hx hb dX12_readsSyllables_110 rfl ?_
                refine lv_iload_n hx hb dX12_readsSyllables_111 rfl (lv_at hl 0 rfl) ?_
                obtain ⟨z73, bz73, x0z73, ez73⟩ := shl_ex 1 z51
                refine lv_ishl hx hb dX12_readsSyllables_112 ?_
                refine r_val ez73 ?_
                obtain ⟨z74, bz74, x0z74, ez74⟩ := or_ex z72 z73
                refine lv_ior hx hb dX12_readsSyllables_113 ?_
                refine r_val ez74 ?_
                refine g_iast F w (a := 151) rfl (j := 27) ⟨by decide, by decide⟩ (by omega) dX12_readsSyllables_114 (fun H locs w => ?_)
                refine lv_aload_n hx hb dX12_readsSyllables_115 rfl (lv_at hl 3 rfl) ?_
                refine f_12_10 F w (a := 146) rfl tb_595 dX12_readsSyllables_116 ?_
                refine lv_bipush (v := zI 25) hx hb dX12_readsSyllables_119 (by decide) ?_
                refine lv_dup2_11 hx hb dX12_readsSyllables_121 rfl rfl ?_
                refine g_iald F w (a := 151) rfl (j := 25) ⟨by decide, by decide⟩ (by omega) dX12_readsSyllables_122 ?_
                refine r_val (v := zI z51) ((st_ne (Or.inr (by decide))).trans ((st_ne (Or.inr (by decide))).trans ez51)) ?_
                refine lv_iconst (v := zI 1) hx hb dX12_readsSyllables_123 rfl ?_
                refine z_iadd (z := (z51 + 1)) hx hb dX12_readsSyllables_124 (by omega) ?_
                refine g_iast F w (a := 151) rfl (j := 25) ⟨by decide, by decide⟩ (by omega) dX12_readsSyllables_125 (fun H locs w => ?_)
                refine lv_aload_n hx hb dX12_readsSyllables_126 rfl (lv_at hl 3 rfl) ?_
                refine lv_dup hx hb dX12_readsSyllables_127 rfl ?_
                refine f_12_9 F w (a := 146) rfl tb_586 dX12_readsSyllables_128 ?_
                refine r_val (v := zI nz450) ((st_ne (Or.inl (by decide))).trans ((st_ne (Or.inl (by decide))).trans ((st_ne (Or.inl (by decide))).trans enz450))) ?_
                refine lv_iconst (v := zI 1) hx hb dX12_readsSyllables_131 rfl ?_
                refine z_iadd (z := (nz450 + 1)) hx hb dX12_readsSyllables_132 (by omega) ?_
                refine u_12_9 F w (a := 146) rfl tb_586 dX12_readsSyllables_133 (fun H locs w => ?_)
                refine lv_aload_n hx hb dX12_readsSyllables_136 rfl (lv_at hl 3 rfl) ?_
                refine k_Vv F w (As := []) (rest := []) (a := 146) (kd_lt (a := 146) (show kd 146 = (12, 0, 0) from rfl) (by decide)) (sh_12 rfl _ _) rfl (q_X12_blanks (ai := (nz450 + 1)) (st_at) ⟨by omega, by omega⟩  (IvR.to (IvR.to (IvR.to (IvR.to hIN44 (a := 151) (k := 26) (x := z70) (show ivr 151 26 = (0, 4095) from rfl) ⟨by omega, by omega⟩ ⟨by decide, by decide, by decide, fun _ => ⟨by omega, by omega⟩⟩) (a := 151) (k := 27) (x := z74) (show ivr 151 27 = (0, 4095) from rfl) ⟨by omega, by omega⟩ ⟨by decide, by decide, by decide, fun _ => ⟨by omega, by omega⟩⟩) (a := 151) (k := 25) (x := (z51 + 1)) (show ivr 151 25 = (0, 12) from rfl) ⟨by omega, by omega⟩ ⟨by decide, by decide, by decide, fun _ => ⟨by omega, by omega⟩⟩) (a := 146) (k := 9) (x := (nz450 + 1)) (show ivr 146 9 = (0, 300) from rfl) ⟨by omega, by omega⟩ ⟨by decide, by decide, by decide, fun q9 => absurd q9 (by decide)⟩)) gv_X12_179 hv_X12_blanks ⟨(Nat.le_of_ble_eq_true rfl), (Nat.le_of_ble_eq_true rfl)⟩ hl.1 rfl (Nat.le_of_ble_eq_true rfl) ⟨Nat.zero_le _, Nat.zero_le _⟩ dX12_readsSyllables_137 (fun N76 H locs hp w => ?_)
                obtain ⟨⟨nz770, enz770, xz77⟩, hIN76, hFN76⟩ := hp
                have hGN76 := Fr.tr (Fr.to (Fr.to (Fr.to (Fr.to hGN44 (by first | decide | (dsimp only; first | done | decide | omega) | omega)) (by first | decide | (dsimp only; first | done | decide | omega) | omega)) (by first | decide | (dsimp only; first | done | decide | omega) | omega)) (by first | decide | (dsimp only; first | done | decide | omega) | omega)) hFN76 (S := (fun b9 k9 => (b9 = 146 ∧ k9 = 9) ∨ (b9 = 151 ∧ 25 ≤ k9 ∧ k9 ≤ 25) ∨ (b9 = 151 ∧ 26 ≤ k9 ∧ k9 ≤ 26) ∨ (b9 = 151 ∧ 27 ≤ k9 ∧ k9 ≤ 27))) (fun b k h => by (try dsimp only at h ⊢); rcases h with ⟨rfl, rfl⟩ <;> first | decide | omega)
                have kn78 : N76.1 146 8 = zI z5 := (hFN76 146 8 (by first | decide | (dsimp only; first | done | decide | omega) | omega)).trans ((st_ne (Or.inr (by decide))).trans ((st_ne (Or.inl (by decide))).trans ((st_ne (Or.inl (by decide))).trans ((st_ne (Or.inl (by decide))).trans kn46))))
                have kn79 : N76.1 151 25 = zI (z51 + 1) := (hFN76 151 25 (by first | decide | (dsimp only; first | done | decide | omega) | omega)).trans ((st_ne (Or.inl (by decide))).trans st_at)
                have kn80 : N76.1 151 26 = zI z70 := (hFN76 151 26 (by first | decide | (dsimp only; first | done | decide | omega) | omega)).trans ((st_ne (Or.inl (by decide))).trans ((st_ne (Or.inr (by decide))).trans ((st_ne (Or.inr (by decide))).trans st_at)))
                have kn81 : N76.1 151 27 = zI z74 := (hFN76 151 27 (by first | decide | (dsimp only; first | done | decide | omega) | omega)).trans ((st_ne (Or.inl (by decide))).trans ((st_ne (Or.inr (by decide))).trans st_at))
                refine lv_goto (tgt := 4) hx hb dX12_readsSyllables_140 (by decide) ?_
                exact ih4 nz770 N76  (by omega) (enz770)  hIN76 hGN76 (by omega) _ _ _ w (lv_sub hl [3] rfl)
              · refine lv_iconst (v := zI 0) hx hb dX12_readsSyllables_77 rfl ?_
                rw [hQ]
                exact e_z F w hr hlocks (nar_z (by omega)) ⟨_, rfl, ⟨by omega, by omega⟩, hIN44, hGN44⟩ dX12_readsSyllables_78
  exact lp4 _ nz40 N3 (by omega) (enz40) hIN3 hGN3 (Nat.lt_succ_self _) _ _ _ w (lv_sub hl [0] rfl)
theorem dX12_readsNumber_0 : decode cX12_readsNumber 0 = .ok (.aload_n 0, 1) := udX12_readsNumber_0
theorem dX12_readsNumber_1 : decode cX12_readsNumber 1 = .ok (.getfield 172, 3) := udX12_readsNumber_1
theorem dX12_readsNumber_4 : decode cX12_readsNumber 4 = .ok (.istore_n 2, 1) := udX12_readsNumber_4
theorem dX12_readsNumber_5 : decode cX12_readsNumber 5 = .ok (.aload_n 0, 1) := udX12_readsNumber_5
theorem dX12_readsNumber_6 : decode cX12_readsNumber 6 = .ok (.invokevirtual 175, 3) := udX12_readsNumber_6
theorem dX12_readsNumber_9 : decode cX12_readsNumber 9 = .ok (.invokestatic 182, 3) := udX12_readsNumber_9
theorem tk_X12_isDigit : Cond.code yX12_isDigit cX12_isDigit 1 (some .boolean) ∈ TB := rtk_X12_isDigit
theorem gc_X12_isDigit : GoodIn TB (cw yX12_isDigit cX12_isDigit 1 (some .boolean)) := goodIn_c2 tk_X12_isDigit
theorem tb_596 : Cond.methodLink "ToneLinesModel" 182 yX12_isDigit ∈ TB := rtb_136
theorem tb_597 : Cond.static yX12_isDigit ∈ TB := rtb_137
theorem gs_X12_182 : GoodIn TB (va_wsS RX12 182 yX12_isDigit (cw yX12_isDigit cX12_isDigit 1 (some .boolean))) := goodIn_3 tb_596 tb_597 tb_38 gc_X12_isDigit
theorem hs_X12_isDigit : yX12_isDigit.cls ≠ "java/lang/invoke/MethodHandle" ∧ yX12_isDigit.cls ≠ "java/lang/invoke/VarHandle" ∧ (parseMethodDescriptor yX12_isDigit.desc).map (fun d => d.parameters.length) = some 1 := rhs_X12_isDigit
theorem dX12_readsNumber_12 : decode cX12_readsNumber 12 = .ok (.ifCond .ne 5, 3) := udX12_readsNumber_12
theorem dX12_readsNumber_17 : decode cX12_readsNumber 17 = .ok (.aload_n 0, 1) := udX12_readsNumber_17
theorem dX12_readsNumber_18 : decode cX12_readsNumber 18 = .ok (.aload_n 0, 1) := udX12_readsNumber_18
theorem dX12_readsNumber_19 : decode cX12_readsNumber 19 = .ok (.invokevirtual 175, 3) := udX12_readsNumber_19
theorem dX12_readsNumber_22 : decode cX12_readsNumber 22 = .ok (.bipush 48, 2) := udX12_readsNumber_22
theorem dX12_readsNumber_24 : decode cX12_readsNumber 24 = .ok (.isub, 1) := udX12_readsNumber_24
theorem dX12_readsNumber_25 : decode cX12_readsNumber 25 = .ok (.putfield 185, 3) := udX12_readsNumber_25
theorem tb_598 : Cond.fieldLink "ToneLinesModel" 185 "ToneLinesModel" "number" "I" ∈ TB := rtb_138
theorem dX12_readsNumber_28 : decode cX12_readsNumber 28 = .ok (.aload_n 0, 1) := udX12_readsNumber_28
theorem dX12_readsNumber_29 : decode cX12_readsNumber 29 = .ok (.dup, 1) := udX12_readsNumber_29
theorem dX12_readsNumber_30 : decode cX12_readsNumber 30 = .ok (.getfield 172, 3) := udX12_readsNumber_30
theorem dX12_readsNumber_33 : decode cX12_readsNumber 33 = .ok (.iconst 1, 1) := udX12_readsNumber_33
theorem dX12_readsNumber_34 : decode cX12_readsNumber 34 = .ok (.iadd, 1) := udX12_readsNumber_34
theorem dX12_readsNumber_35 : decode cX12_readsNumber 35 = .ok (.putfield 172, 3) := udX12_readsNumber_35
theorem dX12_readsNumber_38 : decode cX12_readsNumber 38 = .ok (.aload_n 0, 1) := udX12_readsNumber_38
theorem dX12_readsNumber_39 : decode cX12_readsNumber 39 = .ok (.invokevirtual 175, 3) := udX12_readsNumber_39
theorem dX12_readsNumber_42 : decode cX12_readsNumber 42 = .ok (.invokestatic 182, 3) := udX12_readsNumber_42
theorem dX12_readsNumber_45 : decode cX12_readsNumber 45 = .ok (.ifCond .eq 32, 3) := udX12_readsNumber_45
theorem dX12_readsNumber_77 : decode cX12_readsNumber 77 = .ok (.aload_n 0, 1) := udX12_readsNumber_77
theorem dX12_readsNumber_78 : decode cX12_readsNumber 78 = .ok (.getfield 185, 3) := udX12_readsNumber_78
theorem dX12_readsNumber_81 : decode cX12_readsNumber 81 = .ok (.iload_n 1, 1) := udX12_readsNumber_81
theorem dX12_readsNumber_82 : decode cX12_readsNumber 82 = .ok (.if_icmp .lt 10, 3) := udX12_readsNumber_82
theorem dX12_readsNumber_92 : decode cX12_readsNumber 92 = .ok (.aload_n 0, 1) := udX12_readsNumber_92
theorem dX12_readsNumber_93 : decode cX12_readsNumber 93 = .ok (.invokevirtual 175, 3) := udX12_readsNumber_93
theorem dX12_readsNumber_96 : decode cX12_readsNumber 96 = .ok (.invokestatic 182, 3) := udX12_readsNumber_96
theorem dX12_readsNumber_99 : decode cX12_readsNumber 99 = .ok (.ifCond .ne 7, 3) := udX12_readsNumber_99
theorem dX12_readsNumber_106 : decode cX12_readsNumber 106 = .ok (.iconst 0, 1) := udX12_readsNumber_106
theorem dX12_readsNumber_107 : decode cX12_readsNumber 107 = .ok (.ireturn, 1) := udX12_readsNumber_107
theorem dX12_readsNumber_102 : decode cX12_readsNumber 102 = .ok (.iconst 1, 1) := udX12_readsNumber_102
theorem dX12_readsNumber_103 : decode cX12_readsNumber 103 = .ok (.goto 4, 3) := udX12_readsNumber_103
theorem dX12_readsNumber_85 : decode cX12_readsNumber 85 = .ok (.aload_n 0, 1) := udX12_readsNumber_85
theorem dX12_readsNumber_86 : decode cX12_readsNumber 86 = .ok (.iload_n 2, 1) := udX12_readsNumber_86
theorem dX12_readsNumber_87 : decode cX12_readsNumber 87 = .ok (.putfield 172, 3) := udX12_readsNumber_87
theorem dX12_readsNumber_90 : decode cX12_readsNumber 90 = .ok (.iconst 0, 1) := udX12_readsNumber_90
theorem dX12_readsNumber_91 : decode cX12_readsNumber 91 = .ok (.ireturn, 1) := udX12_readsNumber_91
theorem dX12_readsNumber_48 : decode cX12_readsNumber 48 = .ok (.aload_n 0, 1) := udX12_readsNumber_48
theorem dX12_readsNumber_49 : decode cX12_readsNumber 49 = .ok (.bipush 10, 2) := udX12_readsNumber_49
theorem dX12_readsNumber_51 : decode cX12_readsNumber 51 = .ok (.aload_n 0, 1) := udX12_readsNumber_51
theorem dX12_readsNumber_52 : decode cX12_readsNumber 52 = .ok (.getfield 185, 3) := udX12_readsNumber_52
theorem dX12_readsNumber_55 : decode cX12_readsNumber 55 = .ok (.imul, 1) := udX12_readsNumber_55
theorem dX12_readsNumber_56 : decode cX12_readsNumber 56 = .ok (.aload_n 0, 1) := udX12_readsNumber_56
theorem dX12_readsNumber_57 : decode cX12_readsNumber 57 = .ok (.invokevirtual 175, 3) := udX12_readsNumber_57
theorem dX12_readsNumber_60 : decode cX12_readsNumber 60 = .ok (.iadd, 1) := udX12_readsNumber_60
theorem dX12_readsNumber_61 : decode cX12_readsNumber 61 = .ok (.bipush 48, 2) := udX12_readsNumber_61
theorem dX12_readsNumber_63 : decode cX12_readsNumber 63 = .ok (.isub, 1) := udX12_readsNumber_63
theorem dX12_readsNumber_64 : decode cX12_readsNumber 64 = .ok (.putfield 185, 3) := udX12_readsNumber_64
theorem dX12_readsNumber_67 : decode cX12_readsNumber 67 = .ok (.aload_n 0, 1) := udX12_readsNumber_67
theorem dX12_readsNumber_68 : decode cX12_readsNumber 68 = .ok (.dup, 1) := udX12_readsNumber_68
theorem dX12_readsNumber_69 : decode cX12_readsNumber 69 = .ok (.getfield 172, 3) := udX12_readsNumber_69
theorem dX12_readsNumber_72 : decode cX12_readsNumber 72 = .ok (.iconst 1, 1) := udX12_readsNumber_72
theorem dX12_readsNumber_73 : decode cX12_readsNumber 73 = .ok (.iadd, 1) := udX12_readsNumber_73
theorem dX12_readsNumber_74 : decode cX12_readsNumber 74 = .ok (.putfield 172, 3) := udX12_readsNumber_74
theorem dX12_readsNumber_15 : decode cX12_readsNumber 15 = .ok (.iconst 0, 1) := udX12_readsNumber_15
theorem dX12_readsNumber_16 : decode cX12_readsNumber 16 = .ok (.ireturn, 1) := udX12_readsNumber_16
set_option maxRecDepth 4000 in
theorem q_X12_readsNumber {l : Launch} {D : va_G} {B : Nat} {cy : Nat → ClassId} {M : Mem} {x : Int} (hx : (-2147483648) ≤ x ∧ x ≤ 2147483647) {ai : Int} (hgai : M.1 146 9 = zI ai) (hai : 0 ≤ ai ∧ ai ≤ 300) (hI : IvR M) : Ci l D B cy yX12_readsNumber cX12_readsNumber 3 (some .boolean) 2 42 [.ref (B + 146), .int (zI x)] M (fun r M1 => ∃ z : Int, r = zI z ∧ (0 ≤ z ∧ z ≤ 1) ∧ (∃ ai2 nb : Int, M1.1 146 9 = zI ai2 ∧ M1.1 146 11 = zI nb ∧ ((0 ≤ ai2 ∧ ai2 ≤ 300) ∧ ((-99) ≤ nb ∧ nb ≤ 300) ∧ ai ≤ ai2 ∧ (z = 0 ∨ (ai < ai2 ∧ 0 ≤ nb ∧ nb < x)))) ∧ IvR M1 ∧ Fr (fun b9 k9 => (b9 = 146 ∧ k9 = 11) ∨ (b9 = 146 ∧ k9 = 9)) M1 M) := by
  refine s_anyQ (by decide) (Nat.le_of_ble_eq_true rfl) ?_
  intro p e s m args below meth c ls Q F hr hlocks hQ w hl
  have F : CallFix p m c cX12_readsNumber 3 s args TB RX12 := F
  have hx := F.1
  have hb := F.2.1
  have hl : lv_has ls 3 [(0, .ref (B + 146)), (1, .int (zI x))] := hl
  have hF : Fr (fun b9 k9 => (b9 = 146 ∧ k9 = 11) ∨ (b9 = 146 ∧ k9 = 9)) M M := Fr.rf
  refine lv_aload_n hx hb dX12_readsNumber_0 rfl (lv_at hl 0 rfl) ?_
  refine f_12_9 F w (a := 146) rfl tb_586 dX12_readsNumber_1 ?_
  refine r_val (v := zI ai) (hgai) ?_
  refine lv_istore_n (lv' := [(2, .int (zI ai)), (0, .ref (B + 146)), (1, .int (zI x))]) hx hb dX12_readsNumber_4 rfl hl (by decide) rfl (fun ls hl => ?_)
  refine lv_aload_n hx hb dX12_readsNumber_5 rfl (lv_at hl 1 rfl) ?_
  obtain ⟨z1, bz1, ez1⟩ := IvR.ld (k := 8) hI (show ivr 146 8 = (0, 300) from rfl) (show 146 ≤ 146 ∧ 146 < 159 by decide)
  obtain ⟨z2, bz2, ez2⟩ := IvR.ld (k := (Int.toNat ai)) hI (show ivr 150 (Int.toNat ai) = (0, 255) from rfl) (show 146 ≤ 150 ∧ 150 < 159 by decide)
  refine k_Vi F w (As := []) (rest := []) (a := 146) (kd_lt (a := 146) (show kd 146 = (12, 0, 0) from rfl) (by decide)) (sh_12 rfl _ _) rfl (q_X12_here (ai := ai) (hgai) ⟨by omega, by omega⟩ (td := z1) (ez1) ⟨by omega, by omega⟩ (tv := z2) (ez2) ⟨by omega, by omega⟩  hI) gv_X12_175 hv_X12_here ⟨(Nat.le_of_ble_eq_true rfl), (Nat.le_of_ble_eq_true rfl)⟩ hl.1 rfl (Nat.le_of_ble_eq_true rfl) ⟨Nat.zero_le _, Nat.zero_le _⟩ dX12_readsNumber_6 (fun r3 N4 H locs hp w => ?_)
  obtain ⟨z5, rfl, bz5, xz5, hMN4⟩ := hp
  rw [hMN4] at w
  refine k_Si F w (As := [.int (zI z5)]) (rest := []) (q_X12_isDigit (x := z5) ⟨by omega, by omega⟩  hI) gs_X12_182 hs_X12_isDigit ⟨(Nat.le_of_ble_eq_true rfl), (Nat.le_of_ble_eq_true rfl)⟩ hl.1 rfl (Nat.le_of_ble_eq_true rfl) ⟨Nat.zero_le _, Nat.zero_le _⟩ dX12_readsNumber_9 (fun r6 N7 H locs hp w => ?_)
  obtain ⟨z8, rfl, bz8, xz8, hMN7⟩ := hp
  rw [hMN7] at w
  refine z_if_ne (tgt := 17) hx hb (by omega) dX12_readsNumber_12 (by decide) (fun c9 => ?_) (fun c9 => ?_)
  · refine lv_aload_n hx hb dX12_readsNumber_17 rfl (lv_at hl 1 rfl) ?_
    refine lv_aload_n hx hb dX12_readsNumber_18 rfl (lv_at hl 1 rfl) ?_
    refine k_Vi F w (As := []) (rest := [.ref (B + 146)]) (a := 146) (kd_lt (a := 146) (show kd 146 = (12, 0, 0) from rfl) (by decide)) (sh_12 rfl _ _) rfl (q_X12_here (ai := ai) (hgai) ⟨by omega, by omega⟩ (td := z1) (ez1) ⟨by omega, by omega⟩ (tv := z2) (ez2) ⟨by omega, by omega⟩  hI) gv_X12_175 hv_X12_here ⟨(Nat.le_of_ble_eq_true rfl), (Nat.le_of_ble_eq_true rfl)⟩ hl.1 rfl (Nat.le_of_ble_eq_true rfl) ⟨Nat.zero_le _, Nat.zero_le _⟩ dX12_readsNumber_19 (fun r10 N11 H locs hp w => ?_)
    obtain ⟨z12, rfl, bz12, xz12, hMN11⟩ := hp
    rw [hMN11] at w
    refine lv_bipush (v := zI 48) hx hb dX12_readsNumber_22 (by decide) ?_
    refine z_isub (z := (z12 - 48)) hx hb dX12_readsNumber_24 (by omega) ?_
    refine u_12_11 F w (a := 146) rfl tb_598 dX12_readsNumber_25 (fun H locs w => ?_)
    refine lv_aload_n hx hb dX12_readsNumber_28 rfl (lv_at hl 1 rfl) ?_
    refine lv_dup hx hb dX12_readsNumber_29 rfl ?_
    refine f_12_9 F w (a := 146) rfl tb_586 dX12_readsNumber_30 ?_
    refine r_val (v := zI ai) ((st_ne (Or.inr (by decide))).trans hgai) ?_
    refine lv_iconst (v := zI 1) hx hb dX12_readsNumber_33 rfl ?_
    refine z_iadd (z := (ai + 1)) hx hb dX12_readsNumber_34 (by omega) ?_
    refine u_12_9 F w (a := 146) rfl tb_586 dX12_readsNumber_35 (fun H locs w => ?_)
    refine lv_aload_n hx hb dX12_readsNumber_38 rfl (lv_at hl 1 rfl) ?_
    obtain ⟨z13, bz13, ez13⟩ := IvR.ld (k := (Int.toNat (ai + 1))) hI (show ivr 150 (Int.toNat (ai + 1)) = (0, 255) from rfl) (show 146 ≤ 150 ∧ 150 < 159 by decide)
    refine k_Vi F w (As := []) (rest := []) (a := 146) (kd_lt (a := 146) (show kd 146 = (12, 0, 0) from rfl) (by decide)) (sh_12 rfl _ _) rfl (q_X12_here (ai := (ai + 1)) (st_at) ⟨by omega, by omega⟩ (td := z1) ((st_ne (Or.inr (by decide))).trans ((st_ne (Or.inr (by decide))).trans ez1)) ⟨by omega, by omega⟩ (tv := z13) ((st_ne (Or.inl (by decide))).trans ((st_ne (Or.inl (by decide))).trans ez13)) ⟨by omega, by omega⟩  (IvR.to (IvR.to hI (a := 146) (k := 11) (x := (z12 - 48)) (show ivr 146 11 = ((-99), 300) from rfl) ⟨by omega, by omega⟩ ⟨by decide, by decide, by decide, fun q9 => absurd q9 (by decide)⟩) (a := 146) (k := 9) (x := (ai + 1)) (show ivr 146 9 = (0, 300) from rfl) ⟨by omega, by omega⟩ ⟨by decide, by decide, by decide, fun q9 => absurd q9 (by decide)⟩)) gv_X12_175 hv_X12_here ⟨(Nat.le_of_ble_eq_true rfl), (Nat.le_of_ble_eq_true rfl)⟩ hl.1 rfl (Nat.le_of_ble_eq_true rfl) ⟨Nat.zero_le _, Nat.zero_le _⟩ dX12_readsNumber_39 (fun r14 N15 H locs hp w => ?_)
    obtain ⟨z16, rfl, bz16, xz16, hMN15⟩ := hp
    rw [hMN15] at w
    refine k_Si F w (As := [.int (zI z16)]) (rest := []) (q_X12_isDigit (x := z16) ⟨by omega, by omega⟩  (IvR.to (IvR.to hI (a := 146) (k := 11) (x := (z12 - 48)) (show ivr 146 11 = ((-99), 300) from rfl) ⟨by omega, by omega⟩ ⟨by decide, by decide, by decide, fun q9 => absurd q9 (by decide)⟩) (a := 146) (k := 9) (x := (ai + 1)) (show ivr 146 9 = (0, 300) from rfl) ⟨by omega, by omega⟩ ⟨by decide, by decide, by decide, fun q9 => absurd q9 (by decide)⟩)) gs_X12_182 hs_X12_isDigit ⟨(Nat.le_of_ble_eq_true rfl), (Nat.le_of_ble_eq_true rfl)⟩ hl.1 rfl (Nat.le_of_ble_eq_true rfl) ⟨Nat.zero_le _, Nat.zero_le _⟩ dX12_readsNumber_42 (fun r17 N18 H locs hp w => ?_)
    obtain ⟨z19, rfl, bz19, xz19, hMN18⟩ := hp
    rw [hMN18] at w
    refine z_if_eq (tgt := 77) hx hb (by omega) dX12_readsNumber_45 (by decide) (fun c20 => ?_) (fun c20 => ?_)
    · refine lv_aload_n hx hb dX12_readsNumber_77 rfl (lv_at hl 1 rfl) ?_
      refine f_12_11 F w (a := 146) rfl tb_598 dX12_readsNumber_78 ?_
      refine r_val (v := zI (z12 - 48)) ((st_ne (Or.inr (by decide))).trans st_at) ?_
      refine lv_iload_n hx hb dX12_readsNumber_81 rfl (lv_at hl 2 rfl) ?_
      refine z_icmp_lt (tgt := 92) hx hb (by omega) (by omega) dX12_readsNumber_82 (by decide) (fun c21 => ?_) (fun c21 => ?_)
      · refine lv_aload_n hx hb dX12_readsNumber_92 rfl (lv_at hl 1 rfl) ?_
        refine k_Vi F w (As := []) (rest := []) (a := 146) (kd_lt (a := 146) (show kd 146 = (12, 0, 0) from rfl) (by decide)) (sh_12 rfl _ _) rfl (q_X12_here (ai := (ai + 1)) (st_at) ⟨by omega, by omega⟩ (td := z1) ((st_ne (Or.inr (by decide))).trans ((st_ne (Or.inr (by decide))).trans ez1)) ⟨by omega, by omega⟩ (tv := z13) ((st_ne (Or.inl (by decide))).trans ((st_ne (Or.inl (by decide))).trans ez13)) ⟨by omega, by omega⟩  (IvR.to (IvR.to hI (a := 146) (k := 11) (x := (z12 - 48)) (show ivr 146 11 = ((-99), 300) from rfl) ⟨by omega, by omega⟩ ⟨by decide, by decide, by decide, fun q9 => absurd q9 (by decide)⟩) (a := 146) (k := 9) (x := (ai + 1)) (show ivr 146 9 = (0, 300) from rfl) ⟨by omega, by omega⟩ ⟨by decide, by decide, by decide, fun q9 => absurd q9 (by decide)⟩)) gv_X12_175 hv_X12_here ⟨(Nat.le_of_ble_eq_true rfl), (Nat.le_of_ble_eq_true rfl)⟩ hl.1 rfl (Nat.le_of_ble_eq_true rfl) ⟨Nat.zero_le _, Nat.zero_le _⟩ dX12_readsNumber_93 (fun r22 N23 H locs hp w => ?_)
        obtain ⟨z24, rfl, bz24, xz24, hMN23⟩ := hp
        rw [hMN23] at w
        refine k_Si F w (As := [.int (zI z24)]) (rest := []) (q_X12_isDigit (x := z24) ⟨by omega, by omega⟩  (IvR.to (IvR.to hI (a := 146) (k := 11) (x := (z12 - 48)) (show ivr 146 11 = ((-99), 300) from rfl) ⟨by omega, by omega⟩ ⟨by decide, by decide, by decide, fun q9 => absurd q9 (by decide)⟩) (a := 146) (k := 9) (x := (ai + 1)) (show ivr 146 9 = (0, 300) from rfl) ⟨by omega, by omega⟩ ⟨by decide, by decide, by decide, fun q9 => absurd q9 (by decide)⟩)) gs_X12_182 hs_X12_isDigit ⟨(Nat.le_of_ble_eq_true rfl), (Nat.le_of_ble_eq_true rfl)⟩ hl.1 rfl (Nat.le_of_ble_eq_true rfl) ⟨Nat.zero_le _, Nat.zero_le _⟩ dX12_readsNumber_96 (fun r25 N26 H locs hp w => ?_)
        obtain ⟨z27, rfl, bz27, xz27, hMN26⟩ := hp
        rw [hMN26] at w
        refine z_if_ne (tgt := 106) hx hb (by omega) dX12_readsNumber_99 (by decide) (fun c28 => ?_) (fun c28 => ?_)
        · refine lv_iconst (v := zI 0) hx hb dX12_readsNumber_106 rfl ?_
          rw [hQ]
          exact e_z F w hr hlocks (nar_z (by omega)) ⟨_, rfl, ⟨by omega, by omega⟩, ⟨(ai + 1), (z12 - 48), (st_at), ((st_ne (Or.inr (by decide))).trans st_at), ⟨by omega, by omega⟩, ⟨by omega, by omega⟩, (by omega)⟩, (IvR.to (IvR.to hI (a := 146) (k := 11) (x := (z12 - 48)) (show ivr 146 11 = ((-99), 300) from rfl) ⟨by omega, by omega⟩ ⟨by decide, by decide, by decide, fun q9 => absurd q9 (by decide)⟩) (a := 146) (k := 9) (x := (ai + 1)) (show ivr 146 9 = (0, 300) from rfl) ⟨by omega, by omega⟩ ⟨by decide, by decide, by decide, fun q9 => absurd q9 (by decide)⟩), (Fr.to (Fr.to hF (by first | decide | (dsimp only; first | done | decide | omega) | omega)) (by first | decide | (dsimp only; first | done | decide | omega) | omega))⟩ dX12_readsNumber_107
        · refine lv_iconst (v := zI 1) hx hb dX12_readsNumber_102 rfl ?_
          refine lv_goto (tgt := 107) hx hb dX12_readsNumber_103 (by decide) ?_
          rw [hQ]
          exact e_z F w hr hlocks (nar_z (by omega)) ⟨_, rfl, ⟨by omega, by omega⟩, ⟨(ai + 1), (z12 - 48), (st_at), ((st_ne (Or.inr (by decide))).trans st_at), ⟨by omega, by omega⟩, ⟨by omega, by omega⟩, (by omega)⟩, (IvR.to (IvR.to hI (a := 146) (k := 11) (x := (z12 - 48)) (show ivr 146 11 = ((-99), 300) from rfl) ⟨by omega, by omega⟩ ⟨by decide, by decide, by decide, fun q9 => absurd q9 (by decide)⟩) (a := 146) (k := 9) (x := (ai + 1)) (show ivr 146 9 = (0, 300) from rfl) ⟨by omega, by omega⟩ ⟨by decide, by decide, by decide, fun q9 => absurd q9 (by decide)⟩), (Fr.to (Fr.to hF (by first | decide | (dsimp only; first | done | decide | omega) | omega)) (by first | decide | (dsimp only; first | done | decide | omega) | omega))⟩ dX12_readsNumber_107
      · refine lv_aload_n hx hb dX12_readsNumber_85 rfl (lv_at hl 1 rfl) ?_
        refine lv_iload_n hx hb dX12_readsNumber_86 rfl (lv_at hl 0 rfl) ?_
        refine u_12_9 F w (a := 146) rfl tb_586 dX12_readsNumber_87 (fun H locs w => ?_)
        refine lv_iconst (v := zI 0) hx hb dX12_readsNumber_90 rfl ?_
        rw [hQ]
        exact e_z F w hr hlocks (nar_z (by omega)) ⟨_, rfl, ⟨by omega, by omega⟩, ⟨ai, (z12 - 48), (st_at), ((st_ne (Or.inr (by decide))).trans ((st_ne (Or.inr (by decide))).trans st_at)), ⟨by omega, by omega⟩, ⟨by omega, by omega⟩, (by omega)⟩, (IvR.to (IvR.to (IvR.to hI (a := 146) (k := 11) (x := (z12 - 48)) (show ivr 146 11 = ((-99), 300) from rfl) ⟨by omega, by omega⟩ ⟨by decide, by decide, by decide, fun q9 => absurd q9 (by decide)⟩) (a := 146) (k := 9) (x := (ai + 1)) (show ivr 146 9 = (0, 300) from rfl) ⟨by omega, by omega⟩ ⟨by decide, by decide, by decide, fun q9 => absurd q9 (by decide)⟩) (a := 146) (k := 9) (x := ai) (show ivr 146 9 = (0, 300) from rfl) ⟨by omega, by omega⟩ ⟨by decide, by decide, by decide, fun q9 => absurd q9 (by decide)⟩), (Fr.to (Fr.to (Fr.to hF (by first | decide | (dsimp only; first | done | decide | omega) | omega)) (by first | decide | (dsimp only; first | done | decide | omega) | omega)) (by first | decide | (dsimp only; first | done | decide | omega) | omega))⟩ dX12_readsNumber_91
    · refine lv_aload_n hx hb dX12_readsNumber_48 rfl (lv_at hl 1 rfl) ?_
      refine lv_bipush (v := zI 10) hx hb dX12_readsNumber_49 (by decide) ?_
      refine lv_aload_n hx hb dX12_readsNumber_51 rfl (lv_at hl 1 rfl) ?_
      refine f_12_11 F w (a := 146) rfl tb_598 dX12_readsNumber_52 ?_
      refine r_val (v := zI (z12 - 48)) ((st_ne (Or.inr (by decide))).trans st_at) ?_
      refine z_imul (z := (10 * (z12 - 48))) hx hb dX12_readsNumber_55 (by omega) ?_
      refine lv_aload_n hx hb dX12_readsNumber_56 rfl (lv_at hl 1 rfl) ?_
      refine k_Vi F w (As := []) (rest := [.int (zI (10 * (z12 - 48))), .ref (B + 146)]) (a := 146) (kd_lt (a := 146) (show kd 146 = (12, 0, 0) from rfl) (by decide)) (sh_12 rfl _ _) rfl (q_X12_here (ai := (ai + 1)) (st_at) ⟨by omega, by omega⟩ (td := z1) ((st_ne (Or.inr (by decide))).trans ((st_ne (Or.inr (by decide))).trans ez1)) ⟨by omega, by omega⟩ (tv := z13) ((st_ne (Or.inl (by decide))).trans ((st_ne (Or.inl (by decide))).trans ez13)) ⟨by omega, by omega⟩  (IvR.to (IvR.to hI (a := 146) (k := 11) (x := (z12 - 48)) (show ivr 146 11 = ((-99), 300) from rfl) ⟨by omega, by omega⟩ ⟨by decide, by decide, by decide, fun q9 => absurd q9 (by decide)⟩) (a := 146) (k := 9) (x := (ai + 1)) (show ivr 146 9 = (0, 300) from rfl) ⟨by omega, by omega⟩ ⟨by decide, by decide, by decide, fun q9 => absurd q9 (by decide)⟩)) gv_X12_175 hv_X12_here ⟨(Nat.le_of_ble_eq_true rfl), (Nat.le_of_ble_eq_true rfl)⟩ hl.1 rfl (Nat.le_of_ble_eq_true rfl) ⟨Nat.zero_le _, Nat.zero_le _⟩ dX12_readsNumber_57 (fun r29 N30 H locs hp w => ?_)
      obtain ⟨z31, rfl, bz31, xz31, hMN30⟩ := hp
      rw [hMN30] at w
      refine z_iadd (z := ((10 * (z12 - 48)) + z31)) hx hb dX12_readsNumber_60 (by omega) ?_
      refine lv_bipush (v := zI 48) hx hb dX12_readsNumber_61 (by decide) ?_
      refine z_isub (z := (((10 * (z12 - 48)) + z31) - 48)) hx hb dX12_readsNumber_63 (by omega) ?_
      refine u_12_11 F w (a := 146) rfl tb_598 dX12_readsNumber_64 (fun H locs w => ?_)
      refine lv_aload_n hx hb dX12_readsNumber_67 rfl (lv_at hl 1 rfl) ?_
      refine lv_dup hx hb dX12_readsNumber_68 rfl ?_
      refine f_12_9 F w (a := 146) rfl tb_586 dX12_readsNumber_69 ?_
      refine r_val (v := zI (ai + 1)) ((st_ne (Or.inr (by decide))).trans st_at) ?_
      refine lv_iconst (v := zI 1) hx hb dX12_readsNumber_72 rfl ?_
      refine z_iadd (z := (ai + 2)) hx hb dX12_readsNumber_73 (by omega) ?_
      refine u_12_9 F w (a := 146) rfl tb_586 dX12_readsNumber_74 (fun H locs w => ?_)
      refine lv_aload_n hx hb dX12_readsNumber_77 rfl (lv_at hl 1 rfl) ?_
      refine f_12_11 F w (a := 146) rfl tb_598 dX12_readsNumber_78 ?_
      refine r_val (v := zI (((10 * (z12 - 48)) + z31) - 48)) ((st_ne (Or.inr (by decide))).trans st_at) ?_
      refine lv_iload_n hx hb dX12_readsNumber_81 rfl (lv_at hl 2 rfl) ?_
      refine z_icmp_lt (tgt := 92) hx hb (by omega) (by omega) dX12_readsNumber_82 (by decide) (fun c32 => ?_) (fun c32 => ?_)
      · refine lv_aload_n hx hb dX12_readsNumber_92 rfl (lv_at hl 1 rfl) ?_
        obtain ⟨z33, bz33, ez33⟩ := IvR.ld (k := (Int.toNat (ai + 2))) hI (show ivr 150 (Int.toNat (ai + 2)) = (0, 255) from rfl) (show 146 ≤ 150 ∧ 150 < 159 by decide)
        refine k_Vi F w (As := []) (rest := []) (a := 146) (kd_lt (a := 146) (show kd 146 = (12, 0, 0) from rfl) (by decide)) (sh_12 rfl _ _) rfl (q_X12_here (ai := (ai + 2)) (st_at) ⟨by omega, by omega⟩ (td := z1) ((st_ne (Or.inr (by decide))).trans ((st_ne (Or.inr (by decide))).trans ((st_ne (Or.inr (by decide))).trans ((st_ne (Or.inr (by decide))).trans ez1)))) ⟨by omega, by omega⟩ (tv := z33) ((st_ne (Or.inl (by decide))).trans ((st_ne (Or.inl (by decide))).trans ((st_ne (Or.inl (by decide))).trans ((st_ne (Or.inl (by decide))).trans ez33)))) ⟨by omega, by omega⟩  (IvR.to (IvR.to (IvR.to (IvR.to hI (a := 146) (k := 11) (x := (z12 - 48)) (show ivr 146 11 = ((-99), 300) from rfl) ⟨by omega, by omega⟩ ⟨by decide, by decide, by decide, fun q9 => absurd q9 (by decide)⟩) (a := 146) (k := 9) (x := (ai + 1)) (show ivr 146 9 = (0, 300) from rfl) ⟨by omega, by omega⟩ ⟨by decide, by decide, by decide, fun q9 => absurd q9 (by decide)⟩) (a := 146) (k := 11) (x := (((10 * (z12 - 48)) + z31) - 48)) (show ivr 146 11 = ((-99), 300) from rfl) ⟨by omega, by omega⟩ ⟨by decide, by decide, by decide, fun q9 => absurd q9 (by decide)⟩) (a := 146) (k := 9) (x := (ai + 2)) (show ivr 146 9 = (0, 300) from rfl) ⟨by omega, by omega⟩ ⟨by decide, by decide, by decide, fun q9 => absurd q9 (by decide)⟩)) gv_X12_175 hv_X12_here ⟨(Nat.le_of_ble_eq_true rfl), (Nat.le_of_ble_eq_true rfl)⟩ hl.1 rfl (Nat.le_of_ble_eq_true rfl) ⟨Nat.zero_le _, Nat.zero_le _⟩ dX12_readsNumber_93 (fun r34 N35 H locs hp w => ?_)
        obtain ⟨z36, rfl, bz36, xz36, hMN35⟩ := hp
        rw [hMN35] at w
        refine k_Si F w (As := [.int (zI z36)]) (rest := []) (q_X12_isDigit (x := z36) ⟨by omega, by omega⟩  (IvR.to (IvR.to (IvR.to (IvR.to hI (a := 146) (k := 11) (x := (z12 - 48)) (show ivr 146 11 = ((-99), 300) from rfl) ⟨by omega, by omega⟩ ⟨by decide, by decide, by decide, fun q9 => absurd q9 (by decide)⟩) (a := 146) (k := 9) (x := (ai + 1)) (show ivr 146 9 = (0, 300) from rfl) ⟨by omega, by omega⟩ ⟨by decide, by decide, by decide, fun q9 => absurd q9 (by decide)⟩) (a := 146) (k := 11) (x := (((10 * (z12 - 48)) + z31) - 48)) (show ivr 146 11 = ((-99), 300) from rfl) ⟨by omega, by omega⟩ ⟨by decide, by decide, by decide, fun q9 => absurd q9 (by decide)⟩) (a := 146) (k := 9) (x := (ai + 2)) (show ivr 146 9 = (0, 300) from rfl) ⟨by omega, by omega⟩ ⟨by decide, by decide, by decide, fun q9 => absurd q9 (by decide)⟩)) gs_X12_182 hs_X12_isDigit ⟨(Nat.le_of_ble_eq_true rfl), (Nat.le_of_ble_eq_true rfl)⟩ hl.1 rfl (Nat.le_of_ble_eq_true rfl) ⟨Nat.zero_le _, Nat.zero_le _⟩ dX12_readsNumber_96 (fun r37 N38 H locs hp w => ?_)
        obtain ⟨z39, rfl, bz39, xz39, hMN38⟩ := hp
        rw [hMN38] at w
        refine z_if_ne (tgt := 106) hx hb (by omega) dX12_readsNumber_99 (by decide) (fun c40 => ?_) (fun c40 => ?_)
        · refine lv_iconst (v := zI 0) hx hb dX12_readsNumber_106 rfl ?_
          rw [hQ]
          exact e_z F w hr hlocks (nar_z (by omega)) ⟨_, rfl, ⟨by omega, by omega⟩, ⟨(ai + 2), (((10 * (z12 - 48)) + z31) - 48), (st_at), ((st_ne (Or.inr (by decide))).trans st_at), ⟨by omega, by omega⟩, ⟨by omega, by omega⟩, (by omega)⟩, (IvR.to (IvR.to (IvR.to (IvR.to hI (a := 146) (k := 11) (x := (z12 - 48)) (show ivr 146 11 = ((-99), 300) from rfl) ⟨by omega, by omega⟩ ⟨by decide, by decide, by decide, fun q9 => absurd q9 (by decide)⟩) (a := 146) (k := 9) (x := (ai + 1)) (show ivr 146 9 = (0, 300) from rfl) ⟨by omega, by omega⟩ ⟨by decide, by decide, by decide, fun q9 => absurd q9 (by decide)⟩) (a := 146) (k := 11) (x := (((10 * (z12 - 48)) + z31) - 48)) (show ivr 146 11 = ((-99), 300) from rfl) ⟨by omega, by omega⟩ ⟨by decide, by decide, by decide, fun q9 => absurd q9 (by decide)⟩) (a := 146) (k := 9) (x := (ai + 2)) (show ivr 146 9 = (0, 300) from rfl) ⟨by omega, by omega⟩ ⟨by decide, by decide, by decide, fun q9 => absurd q9 (by decide)⟩), (Fr.to (Fr.to (Fr.to (Fr.to hF (by first | decide | (dsimp only; first | done | decide | omega) | omega)) (by first | decide | (dsimp only; first | done | decide | omega) | omega)) (by first | decide | (dsimp only; first | done | decide | omega) | omega)) (by first | decide | (dsimp only; first | done | decide | omega) | omega))⟩ dX12_readsNumber_107
        · refine lv_iconst (v := zI 1) hx hb dX12_readsNumber_102 rfl ?_
          refine lv_goto (tgt := 107) hx hb dX12_readsNumber_103 (by decide) ?_
          rw [hQ]
          exact e_z F w hr hlocks (nar_z (by omega)) ⟨_, rfl, ⟨by omega, by omega⟩, ⟨(ai + 2), (((10 * (z12 - 48)) + z31) - 48), (st_at), ((st_ne (Or.inr (by decide))).trans st_at), ⟨by omega, by omega⟩, ⟨by omega, by omega⟩, (by omega)⟩, (IvR.to (IvR.to (IvR.to (IvR.to hI (a := 146) (k := 11) (x := (z12 - 48)) (show ivr 146 11 = ((-99), 300) from rfl) ⟨by omega, by omega⟩ ⟨by decide, by decide, by decide, fun q9 => absurd q9 (by decide)⟩) (a := 146) (k := 9) (x := (ai + 1)) (show ivr 146 9 = (0, 300) from rfl) ⟨by omega, by omega⟩ ⟨by decide, by decide, by decide, fun q9 => absurd q9 (by decide)⟩) (a := 146) (k := 11) (x := (((10 * (z12 - 48)) + z31) - 48)) (show ivr 146 11 = ((-99), 300) from rfl) ⟨by omega, by omega⟩ ⟨by decide, by decide, by decide, fun q9 => absurd q9 (by decide)⟩) (a := 146) (k := 9) (x := (ai + 2)) (show ivr 146 9 = (0, 300) from rfl) ⟨by omega, by omega⟩ ⟨by decide, by decide, by decide, fun q9 => absurd q9 (by decide)⟩), (Fr.to (Fr.to (Fr.to (Fr.to hF (by first | decide | (dsimp only; first | done | decide | omega) | omega)) (by first | decide | (dsimp only; first | done | decide | omega) | omega)) (by first | decide | (dsimp only; first | done | decide | omega) | omega)) (by first | decide | (dsimp only; first | done | decide | omega) | omega))⟩ dX12_readsNumber_107
      · refine lv_aload_n hx hb dX12_readsNumber_85 rfl (lv_at hl 1 rfl) ?_
        refine lv_iload_n hx hb dX12_readsNumber_86 rfl (lv_at hl 0 rfl) ?_
        refine u_12_9 F w (a := 146) rfl tb_586 dX12_readsNumber_87 (fun H locs w => ?_)
        refine lv_iconst (v := zI 0) hx hb dX12_readsNumber_90 rfl ?_
        rw [hQ]
        exact e_z F w hr hlocks (nar_z (by omega)) ⟨_, rfl, ⟨by omega, by omega⟩, ⟨ai, (((10 * (z12 - 48)) + z31) - 48), (st_at), ((st_ne (Or.inr (by decide))).trans ((st_ne (Or.inr (by decide))).trans st_at)), ⟨by omega, by omega⟩, ⟨by omega, by omega⟩, (by omega)⟩, (IvR.to (IvR.to (IvR.to (IvR.to (IvR.to hI (a := 146) (k := 11) (x := (z12 - 48)) (show ivr 146 11 = ((-99), 300) from rfl) ⟨by omega, by omega⟩ ⟨by decide, by decide, by decide, fun q9 => absurd q9 (by decide)⟩) (a := 146) (k := 9) (x := (ai + 1)) (show ivr 146 9 = (0, 300) from rfl) ⟨by omega, by omega⟩ ⟨by decide, by decide, by decide, fun q9 => absurd q9 (by decide)⟩) (a := 146) (k := 11) (x := (((10 * (z12 - 48)) + z31) - 48)) (show ivr 146 11 = ((-99), 300) from rfl) ⟨by omega, by omega⟩ ⟨by decide, by decide, by decide, fun q9 => absurd q9 (by decide)⟩) (a := 146) (k := 9) (x := (ai + 2)) (show ivr 146 9 = (0, 300) from rfl) ⟨by omega, by omega⟩ ⟨by decide, by decide, by decide, fun q9 => absurd q9 (by decide)⟩) (a := 146) (k := 9) (x := ai) (show ivr 146 9 = (0, 300) from rfl) ⟨by omega, by omega⟩ ⟨by decide, by decide, by decide, fun q9 => absurd q9 (by decide)⟩), (Fr.to (Fr.to (Fr.to (Fr.to (Fr.to hF (by first | decide | (dsimp only; first | done | decide | omega) | omega)) (by first | decide | (dsimp only; first | done | decide | omega) | omega)) (by first | decide | (dsimp only; first | done | decide | omega) | omega)) (by first | decide | (dsimp only; first | done | decide | omega) | omega)) (by first | decide | (dsimp only; first | done | decide | omega) | omega))⟩ dX12_readsNumber_91
  · refine lv_iconst (v := zI 0) hx hb dX12_readsNumber_15 rfl ?_
    obtain ⟨z41, bz41, ez41⟩ := IvR.ld (k := 11) hI (show ivr 146 11 = ((-99), 300) from rfl) (show 146 ≤ 146 ∧ 146 < 159 by decide)
    rw [hQ]
    exact e_z F w hr hlocks (nar_z (by omega)) ⟨_, rfl, ⟨by omega, by omega⟩, ⟨ai, z41, (hgai), (ez41), ⟨by omega, by omega⟩, ⟨by omega, by omega⟩, (by omega)⟩, hI, hF⟩ dX12_readsNumber_16
theorem dX12_readsLines_0 : decode cX12_readsLines 0 = .ok (.aload_n 0, 1) := udX12_readsLines_0
theorem dX12_readsLines_1 : decode cX12_readsLines 1 = .ok (.invokevirtual 179, 3) := udX12_readsLines_1
theorem dX12_readsLines_4 : decode cX12_readsLines 4 = .ok (.aload_n 0, 1) := udX12_readsLines_4
theorem dX12_readsLines_5 : decode cX12_readsLines 5 = .ok (.getfield 172, 3) := udX12_readsLines_5
theorem dX12_readsLines_8 : decode cX12_readsLines 8 = .ok (.aload_n 0, 1) := udX12_readsLines_8
theorem dX12_readsLines_9 : decode cX12_readsLines 9 = .ok (.getfield 169, 3) := udX12_readsLines_9
theorem dX12_readsLines_12 : decode cX12_readsLines 12 = .ok (.if_icmp .ge 142, 3) := udX12_readsLines_12
theorem dX12_readsLines_154 : decode cX12_readsLines 154 = .ok (.iconst 1, 1) := udX12_readsLines_154
theorem dX12_readsLines_155 : decode cX12_readsLines 155 = .ok (.ireturn, 1) := udX12_readsLines_155
theorem dX12_readsLines_15 : decode cX12_readsLines 15 = .ok (.aload_n 0, 1) := udX12_readsLines_15
theorem dX12_readsLines_16 : decode cX12_readsLines 16 = .ok (.getfield 172, 3) := udX12_readsLines_16
theorem dX12_readsLines_19 : decode cX12_readsLines 19 = .ok (.istore_n 1, 1) := udX12_readsLines_19
theorem dX12_readsLines_20 : decode cX12_readsLines 20 = .ok (.aload_n 0, 1) := udX12_readsLines_20
theorem dX12_readsLines_21 : decode cX12_readsLines 21 = .ok (.aload_n 0, 1) := udX12_readsLines_21
theorem dX12_readsLines_22 : decode cX12_readsLines 22 = .ok (.getfield 26, 3) := udX12_readsLines_22
theorem dX12_readsLines_25 : decode cX12_readsLines 25 = .ok (.iconst 0, 1) := udX12_readsLines_25
theorem dX12_readsLines_26 : decode cX12_readsLines 26 = .ok (.iaload, 1) := udX12_readsLines_26
theorem dX12_readsLines_27 : decode cX12_readsLines 27 = .ok (.invokevirtual 188, 3) := udX12_readsLines_27
theorem tk_X12_readsNumber : Cond.code yX12_readsNumber cX12_readsNumber 3 (some .boolean) ∈ TB := utk_X12_readsNumber
theorem gc_X12_readsNumber : GoodIn TB (cw yX12_readsNumber cX12_readsNumber 3 (some .boolean)) := goodIn_c2 tk_X12_readsNumber
theorem tb_599 : Cond.methodLink "ToneLinesModel" 188 yX12_readsNumber ∈ TB := utb_104
theorem tb_600 : Cond.instanceMethod yX12_readsNumber ∈ TB := utb_105
theorem tb_601 : Cond.selects "ToneLinesModel" yX12_readsNumber yX12_readsNumber ∈ TB := utb_106
theorem gv_X12_188 : GoodIn TB (wsV RX12 188 RX12 yX12_readsNumber (cw yX12_readsNumber cX12_readsNumber 3 (some .boolean))) := goodIn_4 tb_599 tb_600 tb_601 tb_38 gc_X12_readsNumber
theorem hv_X12_readsNumber : yX12_readsNumber.cls = RX12 ∧ yX12_readsNumber.cls ≠ "java/lang/invoke/MethodHandle" ∧ yX12_readsNumber.cls ≠ "java/lang/invoke/VarHandle" ∧ (parseMethodDescriptor yX12_readsNumber.desc).map (fun d => d.parameters.length) = some 1 := uhv_X12_readsNumber
theorem dX12_readsLines_30 : decode cX12_readsLines 30 = .ok (.ifCond .ne 5, 3) := udX12_readsLines_30
theorem dX12_readsLines_35 : decode cX12_readsLines 35 = .ok (.aload_n 0, 1) := udX12_readsLines_35
theorem dX12_readsLines_36 : decode cX12_readsLines 36 = .ok (.getfield 185, 3) := udX12_readsLines_36
theorem dX12_readsLines_39 : decode cX12_readsLines 39 = .ok (.istore_n 2, 1) := udX12_readsLines_39
theorem dX12_readsLines_40 : decode cX12_readsLines 40 = .ok (.aload_n 0, 1) := udX12_readsLines_40
theorem dX12_readsLines_41 : decode cX12_readsLines 41 = .ok (.invokevirtual 179, 3) := udX12_readsLines_41
theorem dX12_readsLines_44 : decode cX12_readsLines 44 = .ok (.aload_n 0, 1) := udX12_readsLines_44
theorem dX12_readsLines_45 : decode cX12_readsLines 45 = .ok (.invokevirtual 175, 3) := udX12_readsLines_45
theorem dX12_readsLines_48 : decode cX12_readsLines 48 = .ok (.bipush 58, 2) := udX12_readsLines_48
theorem dX12_readsLines_50 : decode cX12_readsLines 50 = .ok (.if_icmp .eq 5, 3) := udX12_readsLines_50
theorem dX12_readsLines_55 : decode cX12_readsLines 55 = .ok (.aload_n 0, 1) := udX12_readsLines_55
theorem dX12_readsLines_56 : decode cX12_readsLines 56 = .ok (.dup, 1) := udX12_readsLines_56
theorem dX12_readsLines_57 : decode cX12_readsLines 57 = .ok (.getfield 172, 3) := udX12_readsLines_57
theorem dX12_readsLines_60 : decode cX12_readsLines 60 = .ok (.iconst 1, 1) := udX12_readsLines_60
theorem dX12_readsLines_61 : decode cX12_readsLines 61 = .ok (.iadd, 1) := udX12_readsLines_61
theorem dX12_readsLines_62 : decode cX12_readsLines 62 = .ok (.putfield 172, 3) := udX12_readsLines_62
theorem dX12_readsLines_65 : decode cX12_readsLines 65 = .ok (.aload_n 0, 1) := udX12_readsLines_65
theorem dX12_readsLines_66 : decode cX12_readsLines 66 = .ok (.invokevirtual 179, 3) := udX12_readsLines_66
theorem dX12_readsLines_69 : decode cX12_readsLines 69 = .ok (.aload_n 0, 1) := udX12_readsLines_69
theorem dX12_readsLines_70 : decode cX12_readsLines 70 = .ok (.aload_n 0, 1) := udX12_readsLines_70
theorem dX12_readsLines_71 : decode cX12_readsLines 71 = .ok (.getfield 26, 3) := udX12_readsLines_71
theorem dX12_readsLines_74 : decode cX12_readsLines 74 = .ok (.bipush 25, 2) := udX12_readsLines_74
theorem dX12_readsLines_76 : decode cX12_readsLines 76 = .ok (.iaload, 1) := udX12_readsLines_76
theorem dX12_readsLines_77 : decode cX12_readsLines 77 = .ok (.invokevirtual 188, 3) := udX12_readsLines_77
theorem dX12_readsLines_80 : decode cX12_readsLines 80 = .ok (.ifCond .ne 5, 3) := udX12_readsLines_80
theorem dX12_readsLines_85 : decode cX12_readsLines 85 = .ok (.aload_n 0, 1) := udX12_readsLines_85
theorem dX12_readsLines_86 : decode cX12_readsLines 86 = .ok (.getfield 26, 3) := udX12_readsLines_86
theorem dX12_readsLines_89 : decode cX12_readsLines 89 = .ok (.iload_n 2, 1) := udX12_readsLines_89
theorem dX12_readsLines_90 : decode cX12_readsLines 90 = .ok (.aload_n 0, 1) := udX12_readsLines_90
theorem dX12_readsLines_91 : decode cX12_readsLines 91 = .ok (.getfield 185, 3) := udX12_readsLines_91
theorem dX12_readsLines_94 : decode cX12_readsLines 94 = .ok (.invokestatic 86, 3) := udX12_readsLines_94
theorem dX12_readsLines_97 : decode cX12_readsLines 97 = .ok (.ifCond .ne 10, 3) := udX12_readsLines_97
theorem dX12_readsLines_107 : decode cX12_readsLines 107 = .ok (.aload_n 0, 1) := udX12_readsLines_107
theorem dX12_readsLines_108 : decode cX12_readsLines 108 = .ok (.getfield 172, 3) := udX12_readsLines_108
theorem dX12_readsLines_111 : decode cX12_readsLines 111 = .ok (.aload_n 0, 1) := udX12_readsLines_111
theorem dX12_readsLines_112 : decode cX12_readsLines 112 = .ok (.getfield 169, 3) := udX12_readsLines_112
theorem dX12_readsLines_115 : decode cX12_readsLines 115 = .ok (.if_icmp .ge 14, 3) := udX12_readsLines_115
theorem dX12_readsLines_129 : decode cX12_readsLines 129 = .ok (.aload_n 0, 1) := udX12_readsLines_129
theorem dX12_readsLines_130 : decode cX12_readsLines 130 = .ok (.getfield 26, 3) := udX12_readsLines_130
theorem dX12_readsLines_133 : decode cX12_readsLines 133 = .ok (.bipush 13, 2) := udX12_readsLines_133
theorem dX12_readsLines_135 : decode cX12_readsLines 135 = .ok (.iload_n 2, 1) := udX12_readsLines_135
theorem dX12_readsLines_136 : decode cX12_readsLines 136 = .ok (.iadd, 1) := udX12_readsLines_136
theorem dX12_readsLines_137 : decode cX12_readsLines 137 = .ok (.dup2, 1) := udX12_readsLines_137
theorem dX12_readsLines_138 : decode cX12_readsLines 138 = .ok (.iaload, 1) := udX12_readsLines_138
theorem dX12_readsLines_139 : decode cX12_readsLines 139 = .ok (.iconst 1, 1) := udX12_readsLines_139
theorem dX12_readsLines_140 : decode cX12_readsLines 140 = .ok (.aload_n 0, 1) := udX12_readsLines_140
theorem dX12_readsLines_141 : decode cX12_readsLines 141 = .ok (.getfield 185, 3) := udX12_readsLines_141
theorem dX12_readsLines_144 : decode cX12_readsLines 144 = .ok (.ishl, 1) := udX12_readsLines_144
theorem dX12_readsLines_145 : decode cX12_readsLines 145 = .ok (.ior, 1) := udX12_readsLines_145
theorem dX12_readsLines_146 : decode cX12_readsLines 146 = .ok (.iastore, 1) := udX12_readsLines_146
theorem dX12_readsLines_147 : decode cX12_readsLines 147 = .ok (.aload_n 0, 1) := udX12_readsLines_147
theorem dX12_readsLines_148 : decode cX12_readsLines 148 = .ok (.invokevirtual 179, 3) := udX12_readsLines_148
theorem dX12_readsLines_151 : decode cX12_readsLines 151 = .ok (.goto (-147), 3) := udX12_readsLines_151
theorem dX12_readsLines_118 : decode cX12_readsLines 118 = .ok (.aload_n 0, 1) := udX12_readsLines_118
theorem dX12_readsLines_119 : decode cX12_readsLines 119 = .ok (.invokevirtual 175, 3) := udX12_readsLines_119
theorem dX12_readsLines_122 : decode cX12_readsLines 122 = .ok (.bipush 32, 2) := udX12_readsLines_122
theorem dX12_readsLines_124 : decode cX12_readsLines 124 = .ok (.if_icmp .eq 5, 3) := udX12_readsLines_124
theorem dX12_readsLines_127 : decode cX12_readsLines 127 = .ok (.iconst 0, 1) := udX12_readsLines_127
theorem dX12_readsLines_128 : decode cX12_readsLines 128 = .ok (.ireturn, 1) := udX12_readsLines_128
theorem dX12_readsLines_100 : decode cX12_readsLines 100 = .ok (.aload_n 0, 1) := udX12_readsLines_100
theorem dX12_readsLines_101 : decode cX12_readsLines 101 = .ok (.iload_n 1, 1) := udX12_readsLines_101
theorem dX12_readsLines_102 : decode cX12_readsLines 102 = .ok (.putfield 172, 3) := udX12_readsLines_102
theorem dX12_readsLines_105 : decode cX12_readsLines 105 = .ok (.iconst 0, 1) := udX12_readsLines_105
theorem dX12_readsLines_106 : decode cX12_readsLines 106 = .ok (.ireturn, 1) := udX12_readsLines_106
theorem dX12_readsLines_83 : decode cX12_readsLines 83 = .ok (.iconst 0, 1) := udX12_readsLines_83
theorem dX12_readsLines_84 : decode cX12_readsLines 84 = .ok (.ireturn, 1) := udX12_readsLines_84
theorem dX12_readsLines_53 : decode cX12_readsLines 53 = .ok (.iconst 0, 1) := udX12_readsLines_53
theorem dX12_readsLines_54 : decode cX12_readsLines 54 = .ok (.ireturn, 1) := udX12_readsLines_54
theorem dX12_readsLines_33 : decode cX12_readsLines 33 = .ok (.iconst 0, 1) := udX12_readsLines_33
theorem dX12_readsLines_34 : decode cX12_readsLines 34 = .ok (.ireturn, 1) := udX12_readsLines_34
set_option maxRecDepth 4000 in
theorem q_X12_readsLines {l : Launch} {D : va_G} {B : Nat} {cy : Nat → ClassId} {M : Mem}  (hI : IvR M) : Ci l D B cy yX12_readsLines cX12_readsLines 3 (some .boolean) 3 66 [.ref (B + 146)] M (fun r M1 => ∃ z : Int, r = zI z ∧ (0 ≤ z ∧ z ≤ 1) ∧ IvR M1 ∧ Fr (fun b9 k9 => (b9 = 146 ∧ k9 = 11) ∨ (b9 = 146 ∧ k9 = 9) ∨ (b9 = 151 ∧ 13 ≤ k9 ∧ k9 ≤ 24)) M1 M) := by
  refine s_anyQ (by decide) (Nat.le_of_ble_eq_true rfl) ?_
  intro p e s m args below meth c ls Q F hr hlocks hQ w hl
  have F : CallFix p m c cX12_readsLines 3 s args TB RX12 := F
  have hx := F.1
  have hb := F.2.1
  have hl : lv_has ls 3 [(0, .ref (B + 146))] := hl
  have hF : Fr (fun b9 k9 => (b9 = 146 ∧ k9 = 11) ∨ (b9 = 146 ∧ k9 = 9) ∨ (b9 = 151 ∧ 13 ≤ k9 ∧ k9 ≤ 24)) M M := Fr.rf
  refine lv_aload_n hx hb dX12_readsLines_0 rfl (lv_at hl 0 rfl) ?_
  obtain ⟨z1, bz1, ez1⟩ := IvR.ld (k := 9) hI (show ivr 146 9 = (0, 300) from rfl) (show 146 ≤ 146 ∧ 146 < 159 by decide)
  refine k_Vv F w (As := []) (rest := []) (a := 146) (kd_lt (a := 146) (show kd 146 = (12, 0, 0) from rfl) (by decide)) (sh_12 rfl _ _) rfl (q_X12_blanks (ai := z1) (ez1) ⟨by omega, by omega⟩  hI) gv_X12_179 hv_X12_blanks ⟨(Nat.le_of_ble_eq_true rfl), (Nat.le_of_ble_eq_true rfl)⟩ hl.1 rfl (Nat.le_of_ble_eq_true rfl) ⟨Nat.zero_le _, Nat.zero_le _⟩ dX12_readsLines_1 (fun N3 H locs hp w => ?_)
  obtain ⟨⟨nz40, enz40, xz4⟩, hIN3, hFN3⟩ := hp
  have hGN3 := Fr.tr hF hFN3 (S := (fun b9 k9 => (b9 = 146 ∧ k9 = 11) ∨ (b9 = 146 ∧ k9 = 9) ∨ (b9 = 151 ∧ 13 ≤ k9 ∧ k9 ≤ 24))) (fun b k h => by (try dsimp only at h ⊢); rcases h with ⟨rfl, rfl⟩ <;> first | decide | omega)
  have lp4 : ∀ (f : Nat)  (g146_9_4 : Int) (NL4 : Mem), (0 ≤ g146_9_4 ∧ g146_9_4 ≤ 300) → NL4.1 146 9 = zI g146_9_4 → IvR NL4 → Fr (fun b9 k9 => (b9 = 146 ∧ k9 = 11) ∨ (b9 = 146 ∧ k9 = 9) ∨ (b9 = 151 ∧ 13 ≤ k9 ∧ k9 ≤ 24)) NL4 M → (Int.toNat (300 - g146_9_4) < f) → ∀ (H : Heap) (locs : List Loc) (ls : Array Slot), Wd D B cy s s.heap NL4 H locs → lv_has ls 3 [(0, .ref (B + 146))] → W p l e (rmm 3 66) s m args below meth c H locs 0 0 Q (F0 m 4 ls []) := by
    intro f
    induction f with
    | zero => intros; omega
    | succ f ih4 =>
      intro  g146_9_4 NL4 ig146_9_4 eg146_9_4 hIL4 hFL4 hf4 H locs ls w hl
      refine lv_aload_n hx hb dX12_readsLines_4 rfl (lv_at hl 0 rfl) ?_
      refine f_12_9 F w (a := 146) rfl tb_586 dX12_readsLines_5 ?_
      refine r_val (v := zI g146_9_4) (eg146_9_4) ?_
      refine lv_aload_n hx hb dX12_readsLines_8 rfl (lv_at hl 0 rfl) ?_
      refine f_12_8 F w (a := 146) rfl tb_587 dX12_readsLines_9 ?_
      obtain ⟨z5, bz5, ez5⟩ := IvR.ld (k := 8) hIL4 (show ivr 146 8 = (0, 300) from rfl) (show 146 ≤ 146 ∧ 146 < 159 by decide)
      refine r_val ez5 ?_
      refine z_icmp_ge (tgt := 154) hx hb (by omega) (by omega) dX12_readsLines_12 (by decide) (fun c6 => ?_) (fun c6 => ?_)
      · refine lv_iconst (v := zI 1) hx hb dX12_readsLines_154 rfl ?_
        rw [hQ]
        exact e_z F w hr hlocks (nar_z (by omega)) ⟨_, rfl, ⟨by omega, by omega⟩, hIL4, hFL4⟩ dX12_readsLines_155
      · refine lv_aload_n hx hb dX12_readsLines_15 rfl (lv_at hl 0 rfl) ?_
        refine f_12_9 F w (a := 146) rfl tb_586 dX12_readsLines_16 ?_
        refine r_val (v := zI g146_9_4) (eg146_9_4) ?_
        refine lv_istore_n (lv' := [(1, .int (zI g146_9_4)), (0, .ref (B + 146))]) hx hb dX12_readsLines_19 rfl hl (by decide) rfl (fun ls hl => ?_)
        refine lv_aload_n hx hb dX12_readsLines_20 rfl (lv_at hl 1 rfl) ?_
        refine lv_aload_n hx hb dX12_readsLines_21 rfl (lv_at hl 1 rfl) ?_
        refine f_12_10 F w (a := 146) rfl tb_595 dX12_readsLines_22 ?_
        refine lv_iconst (v := zI 0) hx hb dX12_readsLines_25 rfl ?_
        refine g_iald F w (a := 151) rfl (j := 0) ⟨by decide, by decide⟩ (by omega) dX12_readsLines_26 ?_
        obtain ⟨z7, bz7, ez7⟩ := IvR.ld (k := 0) hIL4 (show ivr 151 0 = (0, 12) from rfl) (show 146 ≤ 151 ∧ 151 < 159 by decide)
        refine r_val ez7 ?_
        refine k_Vi F w (As := [.int (zI z7)]) (rest := []) (a := 146) (kd_lt (a := 146) (show kd 146 = (12, 0, 0) from rfl) (by decide)) (sh_12 rfl _ _) rfl (q_X12_readsNumber (x := z7) ⟨by omega, by omega⟩ (ai := g146_9_4) (eg146_9_4) ⟨by omega, by omega⟩  hIL4) gv_X12_188 hv_X12_readsNumber ⟨(Nat.le_of_ble_eq_true rfl), (Nat.le_of_ble_eq_true rfl)⟩ hl.1 rfl (Nat.le_of_ble_eq_true rfl) ⟨Nat.zero_le _, Nat.zero_le _⟩ dX12_readsLines_27 (fun r8 N9 H locs hp w => ?_)
        obtain ⟨z10, rfl, bz10, ⟨nz100, nz101, enz100, enz101, xz10⟩, hIN9, hFN9⟩ := hp
        have hGN9 := Fr.tr hFL4 hFN9 (S := (fun b9 k9 => (b9 = 146 ∧ k9 = 11) ∨ (b9 = 146 ∧ k9 = 9) ∨ (b9 = 151 ∧ 13 ≤ k9 ∧ k9 ≤ 24))) (fun b k h => by (try dsimp only at h ⊢); rcases h with ⟨rfl, rfl⟩ | ⟨rfl, rfl⟩ <;> first | decide | omega)
        have kn11 : N9.1 146 8 = zI z5 := (hFN9 146 8 (by first | decide | (dsimp only; first | done | decide | omega) | omega)).trans (ez5)
        have kn12 : N9.1 151 0 = zI z7 := (hFN9 151 0 (by first | decide | (dsimp only; first | done | decide | omega) | omega)).trans (ez7)
        refine z_if_ne (tgt := 35) hx hb (by omega) dX12_readsLines_30 (by decide) (fun c13 => ?_) (fun c13 => ?_)
        · refine lv_aload_n hx hb dX12_readsLines_35 rfl (lv_at hl 1 rfl) ?_
          refine f_12_11 F w (a := 146) rfl tb_598 dX12_readsLines_36 ?_
          refine r_val (v := zI nz101) (enz101) ?_
          refine lv_istore_n (lv' := [(2, .int (zI nz101)), (1, .int (zI g146_9_4)), (0, .ref (B + 146))]) hx hb dX12_readsLines_39 rfl hl (by decide) rfl (fun ls hl => ?_)
          refine lv_aload_n hx hb dX12_readsLines_40 rfl (lv_at hl 2 rfl) ?_
          refine k_Vv F w (As := []) (rest := []) (a := 146) (kd_lt (a := 146) (show kd 146 = (12, 0, 0) from rfl) (by decide)) (sh_12 rfl _ _) rfl (q_X12_blanks (ai := nz100) (enz100) ⟨by omega, by omega⟩  hIN9) gv_X12_179 hv_X12_blanks ⟨(Nat.le_of_ble_eq_true rfl), (Nat.le_of_ble_eq_true rfl)⟩ hl.1 rfl (Nat.le_of_ble_eq_true rfl) ⟨Nat.zero_le _, Nat.zero_le _⟩ dX12_readsLines_41 (fun N15 H locs hp w => ?_)
          obtain ⟨⟨nz160, enz160, xz16⟩, hIN15, hFN15⟩ := hp
          have hGN15 := Fr.tr hGN9 hFN15 (S := (fun b9 k9 => (b9 = 146 ∧ k9 = 11) ∨ (b9 = 146 ∧ k9 = 9) ∨ (b9 = 151 ∧ 13 ≤ k9 ∧ k9 ≤ 24))) (fun b k h => by (try dsimp only at h ⊢); rcases h with ⟨rfl, rfl⟩ <;> first | decide | omega)
          have kn17 : N15.1 146 8 = zI z5 := (hFN15 146 8 (by first | decide | (dsimp only; first | done | decide | omega) | omega)).trans (kn11)
          have kn18 : N15.1 151 0 = zI z7 := (hFN15 151 0 (by first | decide | (dsimp only; first | done | decide | omega) | omega)).trans (kn12)
          have kn19 : N15.1 146 11 = zI nz101 := (hFN15 146 11 (by first | decide | (dsimp only; first | done | decide | omega) | omega)).trans (enz101)
          refine lv_aload_n hx hb dX12_readsLines_44 rfl (lv_at hl 2 rfl) ?_
          obtain ⟨z20, bz20, ez20⟩ := IvR.ld (k := (Int.toNat nz160)) hIN15 (show ivr 150 (Int.toNat nz160) = (0, 255) from rfl) (show 146 ≤ 150 ∧ 150 < 159 by decide)
          refine k_Vi F w (As := []) (rest := []) (a := 146) (kd_lt (a := 146) (show kd 146 = (12, 0, 0) from rfl) (by decide)) (sh_12 rfl _ _) rfl (q_X12_here (ai := nz160) (enz160) ⟨by omega, by omega⟩ (td := z5) (kn17) ⟨by omega, by omega⟩ (tv := z20) (ez20) ⟨by omega, by omega⟩  hIN15) gv_X12_175 hv_X12_here ⟨(Nat.le_of_ble_eq_true rfl), (Nat.le_of_ble_eq_true rfl)⟩ hl.1 rfl (Nat.le_of_ble_eq_true rfl) ⟨Nat.zero_le _, Nat.zero_le _⟩ dX12_readsLines_45 (fun r21 N22 H locs hp w => ?_)
          obtain ⟨z23, rfl, bz23, xz23, hMN22⟩ := hp
          rw [hMN22] at w
          refine lv_bipush (v := zI 58) hx hb dX12_readsLines_48 (by decide) ?_
          refine z_icmp_eq (tgt := 55) hx hb (by omega) (by omega) dX12_readsLines_50 (by decide) (fun c24 => ?_) (fun c24 => ?_)
          · refine lv_aload_n hx hb dX12_readsLines_55 rfl (lv_at hl 2 rfl) ?_
            refine lv_dup hx hb dX12_readsLines_56 rfl ?_
            refine f_12_9 F w (a := 146) rfl tb_586 dX12_readsLines_57 ?_
            refine r_val (v := zI nz160) (enz160) ?_
            refine lv_iconst (v := zI 1) hx hb dX12_readsLines_60 rfl ?_
            refine z_iadd (z := (nz160 + 1)) hx hb dX12_readsLines_61 (by omega) ?_
            refine u_12_9 F w (a := 146) rfl tb_586 dX12_readsLines_62 (fun H locs w => ?_)
            refine lv_aload_n hx hb dX12_readsLines_65 rfl (lv_at hl 2 rfl) ?_
            refine k_Vv F w (As := []) (rest := []) (a := 146) (kd_lt (a := 146) (show kd 146 = (12, 0, 0) from rfl) (by decide)) (sh_12 rfl _ _) rfl (q_X12_blanks (ai := (nz160 + 1)) (st_at) ⟨by omega, by omega⟩  (IvR.to hIN15 (a := 146) (k := 9) (x := (nz160 + 1)) (show ivr 146 9 = (0, 300) from rfl) ⟨by omega, by omega⟩ ⟨by decide, by decide, by decide, fun q9 => absurd q9 (by decide)⟩)) gv_X12_179 hv_X12_blanks ⟨(Nat.le_of_ble_eq_true rfl), (Nat.le_of_ble_eq_true rfl)⟩ hl.1 rfl (Nat.le_of_ble_eq_true rfl) ⟨Nat.zero_le _, Nat.zero_le _⟩ dX12_readsLines_66 (fun N26 H locs hp w => ?_)
            obtain ⟨⟨nz270, enz270, xz27⟩, hIN26, hFN26⟩ := hp
            have hGN26 := Fr.tr (Fr.to hGN15 (by first | decide | (dsimp only; first | done | decide | omega) | omega)) hFN26 (S := (fun b9 k9 => (b9 = 146 ∧ k9 = 11) ∨ (b9 = 146 ∧ k9 = 9) ∨ (b9 = 151 ∧ 13 ≤ k9 ∧ k9 ≤ 24))) (fun b k h => by (try dsimp only at h ⊢); rcases h with ⟨rfl, rfl⟩ <;> first | decide | omega)
            have kn28 : N26.1 146 8 = zI z5 := (hFN26 146 8 (by first | decide | (dsimp only; first | done | decide | omega) | omega)).trans ((st_ne (Or.inr (by decide))).trans kn17)
            have kn29 : N26.1 151 0 = zI z7 := (hFN26 151 0 (by first | decide | (dsimp only; first | done | decide | omega) | omega)).trans ((st_ne (Or.inl (by decide))).trans kn18)
            have kn30 : N26.1 146 11 = zI nz101 := (hFN26 146 11 (by first | decide | (dsimp only; first | done | decide | omega) | omega)).trans ((st_ne (Or.inr (by decide))).trans kn19)
            refine lv_aload_n hx hb dX12_readsLines_69 rfl (lv_at hl 2 rfl) ?_
            refine lv_aload_n hx hb dX12_readsLines_70 rfl (lv_at hl 2 rfl) ?_
            refine f_12_10 F w (a := 146) rfl tb_595 dX12_readsLines_71 ?_
            refine lv_bipush (v := zI 25) hx hb dX12_readsLines_74 (by decide) ?_
            refine g_iald F w (a := 151) rfl (j := 25) ⟨by decide, by decide⟩ (by omega) dX12_readsLines_76 ?_
            obtain ⟨z31, bz31, ez31⟩ := IvR.ld (k := 25) hIN26 (show ivr 151 25 = (0, 12) from rfl) (show 146 ≤ 151 ∧ 151 < 159 by decide)
            refine r_val ez31 ?_
            refine k_Vi F w (As := [.int (zI z31)]) (rest := []) (a := 146) (kd_lt (a := 146) (show kd 146 = (12, 0, 0) from rfl) (by decide)) (sh_12 rfl _ _) rfl (q_X12_readsNumber (x := z31) ⟨by omega, by omega⟩ (ai := nz270) (enz270) ⟨by omega, by omega⟩  hIN26) gv_X12_188 hv_X12_readsNumber ⟨(Nat.le_of_ble_eq_true rfl), (Nat.le_of_ble_eq_true rfl)⟩ hl.1 rfl (Nat.le_of_ble_eq_true rfl) ⟨Nat.zero_le _, Nat.zero_le _⟩ dX12_readsLines_77 (fun r32 N33 H locs hp w => ?_)
            obtain ⟨z34, rfl, bz34, ⟨nz340, nz341, enz340, enz341, xz34⟩, hIN33, hFN33⟩ := hp
            have hGN33 := Fr.tr hGN26 hFN33 (S := (fun b9 k9 => (b9 = 146 ∧ k9 = 11) ∨ (b9 = 146 ∧ k9 = 9) ∨ (b9 = 151 ∧ 13 ≤ k9 ∧ k9 ≤ 24))) (fun b k h => by (try dsimp only at h ⊢); rcases h with ⟨rfl, rfl⟩ | ⟨rfl, rfl⟩ <;> first | decide | omega)
            have kn35 : N33.1 146 8 = zI z5 := (hFN33 146 8 (by first | decide | (dsimp only; first | done | decide | omega) | omega)).trans (kn28)
            have kn36 : N33.1 151 0 = zI z7 := (hFN33 151 0 (by first | decide | (dsimp only; first | done | decide | omega) | omega)).trans (kn29)
            have kn37 : N33.1 151 25 = zI z31 := (hFN33 151 25 (by first | decide | (dsimp only; first | done | decide | omega) | omega)).trans (ez31)
            refine z_if_ne (tgt := 85) hx hb (by omega) dX12_readsLines_80 (by decide) (fun c38 => ?_) (fun c38 => ?_)
            · refine lv_aload_n hx hb dX12_readsLines_85 rfl (lv_at hl 2 rfl) ?_
              refine f_12_10 F w (a := 146) rfl tb_595 dX12_readsLines_86 ?_
              refine lv_iload_n hx hb dX12_readsLines_89 rfl (lv_at hl 0 rfl) ?_
              refine lv_aload_n hx hb dX12_readsLines_90 rfl (lv_at hl 2 rfl) ?_
              refine f_12_11 F w (a := 146) rfl tb_598 dX12_readsLines_91 ?_
              refine r_val (v := zI nz341) (enz341) ?_
              refine k_Si F w (As := [.ref (B + 151), .int (zI nz101), .int (zI nz341)]) (rest := []) (q_isOpen_151 (t := nz101) ⟨by omega, by omega⟩ (y := nz341) ⟨by omega, by omega⟩ (nn := z7) (kn36) ⟨by omega, by omega⟩ (by omega) hIN33) gs_X12_86 hs_X12_isOpen ⟨(Nat.le_of_ble_eq_true rfl), (Nat.le_of_ble_eq_true rfl)⟩ hl.1 rfl (Nat.le_of_ble_eq_true rfl) ⟨Nat.zero_le _, Nat.zero_le _⟩ dX12_readsLines_94 (fun r39 N40 H locs hp w => ?_)
              obtain ⟨z41, rfl, bz41, xz41, hMN40⟩ := hp
              rw [hMN40] at w
              refine z_if_ne (tgt := 107) hx hb (by omega) dX12_readsLines_97 (by decide) (fun c42 => ?_) (fun c42 => ?_)
              · refine lv_aload_n hx hb dX12_readsLines_107 rfl (lv_at hl 2 rfl) ?_
                refine f_12_9 F w (a := 146) rfl tb_586 dX12_readsLines_108 ?_
                refine r_val (v := zI nz340) (enz340) ?_
                refine lv_aload_n hx hb dX12_readsLines_111 rfl (lv_at hl 2 rfl) ?_
                refine f_12_8 F w (a := 146) rfl tb_587 dX12_readsLines_112 ?_
                refine r_val (v := zI z5) (kn35) ?_
                refine z_icmp_ge (tgt := 129) hx hb (by omega) (by omega) dX12_readsLines_115 (by decide) (fun c43 => ?_) (fun c43 => ?_)
                · refine lv_aload_n hx hb dX12_readsLines_129 rfl (lv_at hl 2 rfl) ?_
                  refine f_12_10 F w (a := 146) rfl tb_595 dX12_readsLines_130 ?_
                  refine lv_bipush (v := zI 13) hx hb dX12_readsLines_133 (by decide) ?_
                  refine lv_iload_n hx hb dX12_readsLines_135 rfl (lv_at hl 0 rfl) ?_
                  refine z_iadd (z := (nz101 + 13)) hx hb dX12_readsLines_136 (by omega) ?_
                  refine lv_dup2_11 hx hb dX12_readsLines_137 rfl rfl ?_
                  refine g_iald F w (a := 151) rfl (j := (13 + Int.toNat nz101)) (ix_l (t := nz101) (by omega) (by omega)) (by omega) dX12_readsLines_138 ?_
                  obtain ⟨z44, bz44, ez44⟩ := IvR.ld (k := (13 + Int.toNat nz101)) hIN33 (wiv_l (a := 151) (k := (13 + Int.toNat nz101)) (by omega) (by omega)) (show 146 ≤ 151 ∧ 151 < 159 by decide)
                  refine r_val ez44 ?_
                  refine lv_iconst (v := zI 1) hx hb dX12_readsLines_139 rfl ?_
                  refine lv_aload_n hx hb dX12_readsLines_140 rfl (lv_at hl 2 rfl) ?_
                  refine f_12_11 F w (a := 146) rfl tb_598 dX12_readsLines_141 ?_
                  refine r_val (v := zI nz341) (enz341) ?_
                  obtain ⟨z45, bz45, x0z45, ez45⟩ := shl_ex 1 nz341
                  refine lv_ishl hx hb dX12_readsLines_144 ?_
                  refine r_val ez45 ?_
                  obtain ⟨z46, bz46, x0z46, ez46⟩ := or_ex z44 z45
                  refine lv_ior hx hb dX12_readsLines_145 ?_
                  refine r_val ez46 ?_
                  refine g_iast F w (a := 151) rfl (j := (13 + Int.toNat nz101)) (ix_l (t := nz101) (by omega) (by omega)) (by omega) dX12_readsLines_146 (fun H locs w => ?_)
                  refine lv_aload_n hx hb dX12_readsLines_147 rfl (lv_at hl 2 rfl) ?_
                  refine k_Vv F w (As := []) (rest := []) (a := 146) (kd_lt (a := 146) (show kd 146 = (12, 0, 0) from rfl) (by decide)) (sh_12 rfl _ _) rfl (q_X12_blanks (ai := nz340) ((st_ne (Or.inl (by decide))).trans enz340) ⟨by omega, by omega⟩  (IvR.toO hIN33 (a := 151) (t := nz101) (y := nz341) (x := z46) (by omega) (by omega) (Or.resolve_left xz41 (by omega)) (or_eq (ez44) ez45 ez46) (by omega))) gv_X12_179 hv_X12_blanks ⟨(Nat.le_of_ble_eq_true rfl), (Nat.le_of_ble_eq_true rfl)⟩ hl.1 rfl (Nat.le_of_ble_eq_true rfl) ⟨Nat.zero_le _, Nat.zero_le _⟩ dX12_readsLines_148 (fun N48 H locs hp w => ?_)
                  obtain ⟨⟨nz490, enz490, xz49⟩, hIN48, hFN48⟩ := hp
                  have hGN48 := Fr.tr (Fr.to hGN33 (by first | decide | (dsimp only; first | done | decide | omega) | omega)) hFN48 (S := (fun b9 k9 => (b9 = 146 ∧ k9 = 11) ∨ (b9 = 146 ∧ k9 = 9) ∨ (b9 = 151 ∧ 13 ≤ k9 ∧ k9 ≤ 24))) (fun b k h => by (try dsimp only at h ⊢); rcases h with ⟨rfl, rfl⟩ <;> first | decide | omega)
                  have kn50 : N48.1 146 8 = zI z5 := (hFN48 146 8 (by first | decide | (dsimp only; first | done | decide | omega) | omega)).trans ((st_ne (Or.inl (by decide))).trans kn35)
                  have kn51 : N48.1 151 0 = zI z7 := (hFN48 151 0 (by first | decide | (dsimp only; first | done | decide | omega) | omega)).trans ((st_ne (Or.inr (by omega))).trans kn36)
                  have kn52 : N48.1 151 25 = zI z31 := (hFN48 151 25 (by first | decide | (dsimp only; first | done | decide | omega) | omega)).trans ((st_ne (Or.inr (by omega))).trans kn37)
                  have kn53 : N48.1 146 11 = zI nz341 := (hFN48 146 11 (by first | decide | (dsimp only; first | done | decide | omega) | omega)).trans ((st_ne (Or.inl (by decide))).trans enz341)
                  refine lv_goto (tgt := 4) hx hb dX12_readsLines_151 (by decide) ?_
                  exact ih4 nz490 N48  (by omega) (enz490)  hIN48 hGN48 (by omega) _ _ _ w (lv_sub hl [2] rfl)
                · refine lv_aload_n hx hb dX12_readsLines_118 rfl (lv_at hl 2 rfl) ?_
                  obtain ⟨z54, bz54, ez54⟩ := IvR.ld (k := (Int.toNat nz340)) hIN33 (show ivr 150 (Int.toNat nz340) = (0, 255) from rfl) (show 146 ≤ 150 ∧ 150 < 159 by decide)
                  refine k_Vi F w (As := []) (rest := []) (a := 146) (kd_lt (a := 146) (show kd 146 = (12, 0, 0) from rfl) (by decide)) (sh_12 rfl _ _) rfl (q_X12_here (ai := nz340) (enz340) ⟨by omega, by omega⟩ (td := z5) (kn35) ⟨by omega, by omega⟩ (tv := z54) (ez54) ⟨by omega, by omega⟩  hIN33) gv_X12_175 hv_X12_here ⟨(Nat.le_of_ble_eq_true rfl), (Nat.le_of_ble_eq_true rfl)⟩ hl.1 rfl (Nat.le_of_ble_eq_true rfl) ⟨Nat.zero_le _, Nat.zero_le _⟩ dX12_readsLines_119 (fun r55 N56 H locs hp w => ?_)
                  obtain ⟨z57, rfl, bz57, xz57, hMN56⟩ := hp
                  rw [hMN56] at w
                  refine lv_bipush (v := zI 32) hx hb dX12_readsLines_122 (by decide) ?_
                  refine z_icmp_eq (tgt := 129) hx hb (by omega) (by omega) dX12_readsLines_124 (by decide) (fun c58 => ?_) (fun c58 => ?_)
                  · refine lv_aload_n hx hb dX12_readsLines_129 rfl (lv_at hl 2 rfl) ?_
                    refine f_12_10 F w (a := 146) rfl tb_595 dX12_readsLines_130 ?_
                    refine lv_bipush (v := zI 13) hx hb dX12_readsLines_133 (by decide) ?_
                    refine lv_iload_n hx hb dX12_readsLines_135 rfl (lv_at hl 0 rfl) ?_
                    refine z_iadd (z := (nz101 + 13)) hx hb dX12_readsLines_136 (by omega) ?_
                    refine lv_dup2_11 hx hb dX12_readsLines_137 rfl rfl ?_
                    refine g_iald F w (a := 151) rfl (j := (13 + Int.toNat nz101)) (ix_l (t := nz101) (by omega) (by omega)) (by omega) dX12_readsLines_138 ?_
                    obtain ⟨z59, bz59, ez59⟩ := IvR.ld (k := (13 + Int.toNat nz101)) hIN33 (wiv_l (a := 151) (k := (13 + Int.toNat nz101)) (by omega) (by omega)) (show 146 ≤ 151 ∧ 151 < 159 by decide)
                    refine r_val ez59 ?_
                    refine lv_iconst (v := zI 1) hx hb dX12_readsLines_139 rfl ?_
                    refine lv_aload_n hx hb dX12_readsLines_140 rfl (lv_at hl 2 rfl) ?_
                    refine f_12_11 F w (a := 146) rfl tb_598 dX12_readsLines_141 ?_
                    refine r_val (v := zI nz341) (enz341) ?_
                    obtain ⟨z60, bz60, x0z60, ez60⟩ := shl_ex 1 nz341
                    refine lv_ishl hx hb dX12_readsLines_144 ?_
                    refine r_val ez60 ?_
                    obtain ⟨z61, bz61, x0z61, ez61⟩ := or_ex z59 z60
                    refine lv_ior hx hb dX12_readsLines_145 ?_
                    refine r_val ez61 ?_
                    refine g_iast F w (a := 151) rfl (j := (13 + Int.toNat nz101)) (ix_l (t := nz101) (by omega) (by omega)) (by omega) dX12_readsLines_146 (fun H locs w => ?_)
                    refine lv_aload_n hx hb dX12_readsLines_147 rfl (lv_at hl 2 rfl) ?_
                    refine k_Vv F w (As := []) (rest := []) (a := 146) (kd_lt (a := 146) (show kd 146 = (12, 0, 0) from rfl) (by decide)) (sh_12 rfl _ _) rfl (q_X12_blanks (ai := nz340) ((st_ne (Or.inl (by decide))).trans enz340) ⟨by omega, by omega⟩  (IvR.toO hIN33 (a := 151) (t := nz101) (y := nz341) (x := z61) (by omega) (by omega) (Or.resolve_left xz41 (by omega)) (or_eq (ez59) ez60 ez61) (by omega))) gv_X12_179 hv_X12_blanks ⟨(Nat.le_of_ble_eq_true rfl), (Nat.le_of_ble_eq_true rfl)⟩ hl.1 rfl (Nat.le_of_ble_eq_true rfl) ⟨Nat.zero_le _, Nat.zero_le _⟩ dX12_readsLines_148 (fun N63 H locs hp w => ?_)
                    obtain ⟨⟨nz640, enz640, xz64⟩, hIN63, hFN63⟩ := hp
                    have hGN63 := Fr.tr (Fr.to hGN33 (by first | decide | (dsimp only; first | done | decide | omega) | omega)) hFN63 (S := (fun b9 k9 => (b9 = 146 ∧ k9 = 11) ∨ (b9 = 146 ∧ k9 = 9) ∨ (b9 = 151 ∧ 13 ≤ k9 ∧ k9 ≤ 24))) (fun b k h => by (try dsimp only at h ⊢); rcases h with ⟨rfl, rfl⟩ <;> first | decide | omega)
                    have kn65 : N63.1 146 8 = zI z5 := (hFN63 146 8 (by first | decide | (dsimp only; first | done | decide | omega) | omega)).trans ((st_ne (Or.inl (by decide))).trans kn35)
                    have kn66 : N63.1 151 0 = zI z7 := (hFN63 151 0 (by first | decide | (dsimp only; first | done | decide | omega) | omega)).trans ((st_ne (Or.inr (by omega))).trans kn36)
                    have kn67 : N63.1 151 25 = zI z31 := (hFN63 151 25 (by first | decide | (dsimp only; first | done | decide | omega) | omega)).trans ((st_ne (Or.inr (by omega))).trans kn37)
                    have kn68 : N63.1 146 11 = zI nz341 := (hFN63 146 11 (by first | decide | (dsimp only; first | done | decide | omega) | omega)).trans ((st_ne (Or.inl (by decide))).trans enz341)
                    refine lv_goto (tgt := 4) hx hb dX12_readsLines_151 (by decide) ?_
                    exact ih4 nz640 N63  (by omega) (enz640)  hIN63 hGN63 (by omega) _ _ _ w (lv_sub hl [2] rfl)
                  · refine lv_iconst (v := zI 0) hx hb dX12_readsLines_127 rfl ?_
                    rw [hQ]
                    exact e_z F w hr hlocks (nar_z (by omega)) ⟨_, rfl, ⟨by omega, by omega⟩, hIN33, hGN33⟩ dX12_readsLines_128
              · refine lv_aload_n hx hb dX12_readsLines_100 rfl (lv_at hl 2 rfl) ?_
                refine lv_iload_n hx hb dX12_readsLines_101 rfl (lv_at hl 1 rfl) ?_
                refine u_12_9 F w (a := 146) rfl tb_586 dX12_readsLines_102 (fun H locs w => ?_)
                refine lv_iconst (v := zI 0) hx hb dX12_readsLines_105 rfl ?_
                rw [hQ]
                exact e_z F w hr hlocks (nar_z (by omega)) ⟨_, rfl, ⟨by omega, by omega⟩, (IvR.to hIN33 (a := 146) (k := 9) (x := g146_9_4) (show ivr 146 9 = (0, 300) from rfl) ⟨by omega, by omega⟩ ⟨by decide, by decide, by decide, fun q9 => absurd q9 (by decide)⟩), (Fr.to hGN33 (by first | decide | (dsimp only; first | done | decide | omega) | omega))⟩ dX12_readsLines_106
            · refine lv_iconst (v := zI 0) hx hb dX12_readsLines_83 rfl ?_
              rw [hQ]
              exact e_z F w hr hlocks (nar_z (by omega)) ⟨_, rfl, ⟨by omega, by omega⟩, hIN33, hGN33⟩ dX12_readsLines_84
          · refine lv_iconst (v := zI 0) hx hb dX12_readsLines_53 rfl ?_
            rw [hQ]
            exact e_z F w hr hlocks (nar_z (by omega)) ⟨_, rfl, ⟨by omega, by omega⟩, hIN15, hGN15⟩ dX12_readsLines_54
        · refine lv_iconst (v := zI 0) hx hb dX12_readsLines_33 rfl ?_
          rw [hQ]
          exact e_z F w hr hlocks (nar_z (by omega)) ⟨_, rfl, ⟨by omega, by omega⟩, hIN9, hGN9⟩ dX12_readsLines_34
  exact lp4 _ nz40 N3 (by omega) (enz40) hIN3 hGN3 (Nat.lt_succ_self _) _ _ _ w (lv_sub hl [0] rfl)
theorem dX12_isWord_0 : decode cX12_isWord 0 = .ok (.aload_n 0, 1) := rdX12_isWord_0
theorem dX12_isWord_1 : decode cX12_isWord 1 = .ok (.getfield 204, 3) := rdX12_isWord_1
theorem tb_602 : Cond.fieldLink "ToneLinesModel" 204 "ToneLinesModel" "token" "I" ∈ TB := rtb_127
theorem dX12_isWord_4 : decode cX12_isWord 4 = .ok (.iconst 1, 1) := rdX12_isWord_4
theorem dX12_isWord_5 : decode cX12_isWord 5 = .ok (.if_icmp .ne 15, 3) := rdX12_isWord_5
theorem dX12_isWord_20 : decode cX12_isWord 20 = .ok (.iconst 0, 1) := rdX12_isWord_20
theorem dX12_isWord_21 : decode cX12_isWord 21 = .ok (.ireturn, 1) := rdX12_isWord_21
theorem dX12_isWord_8 : decode cX12_isWord 8 = .ok (.aload_n 0, 1) := rdX12_isWord_8
theorem dX12_isWord_9 : decode cX12_isWord 9 = .ok (.getfield 210, 3) := rdX12_isWord_9
theorem tb_603 : Cond.fieldLink "ToneLinesModel" 210 "ToneLinesModel" "spelt" "I" ∈ TB := rtb_132
theorem dX12_isWord_12 : decode cX12_isWord 12 = .ok (.iload_n 1, 1) := rdX12_isWord_12
theorem dX12_isWord_13 : decode cX12_isWord 13 = .ok (.if_icmp .ne 7, 3) := rdX12_isWord_13
theorem dX12_isWord_16 : decode cX12_isWord 16 = .ok (.iconst 1, 1) := rdX12_isWord_16
theorem dX12_isWord_17 : decode cX12_isWord 17 = .ok (.goto 4, 3) := rdX12_isWord_17
set_option maxRecDepth 4000 in
theorem q_X12_isWord {l : Launch} {D : va_G} {B : Nat} {cy : Nat → ClassId} {M : Mem} {x : Int} (hx : (-2147483648) ≤ x ∧ x ≤ 2147483647) (hI : IvR M) : Ci l D B cy yX12_isWord cX12_isWord 2 (some .boolean) 0 0 [.ref (B + 146), .int (zI x)] M (fun r M1 => ∃ z : Int, r = zI z ∧ (0 ≤ z ∧ z ≤ 1) ∧ M1 = M) := by
  refine s_anyQ (by decide) (Nat.le_of_ble_eq_true rfl) ?_
  intro p e s m args below meth c ls Q F hr hlocks hQ w hl
  have F : CallFix p m c cX12_isWord 2 s args TB RX12 := F
  have hx := F.1
  have hb := F.2.1
  have hl : lv_has ls 2 [(0, .ref (B + 146)), (1, .int (zI x))] := hl
  refine lv_aload_n hx hb dX12_isWord_0 rfl (lv_at hl 0 rfl) ?_
  refine f_12_13 F w (a := 146) rfl tb_602 dX12_isWord_1 ?_
  obtain ⟨z1, bz1, ez1⟩ := IvR.ld (k := 13) hI (show ivr 146 13 = ((-2147483648), 2147483647) from rfl) (show 146 ≤ 146 ∧ 146 < 159 by decide)
  refine r_val ez1 ?_
  refine lv_iconst (v := zI 1) hx hb dX12_isWord_4 rfl ?_
  refine z_icmp_ne (tgt := 20) hx hb (by omega) (by omega) dX12_isWord_5 (by decide) (fun c2 => ?_) (fun c2 => ?_)
  · refine lv_iconst (v := zI 0) hx hb dX12_isWord_20 rfl ?_
    rw [hQ]
    exact e_z F w hr hlocks (nar_z (by omega)) ⟨_, rfl, ⟨by omega, by omega⟩, rfl⟩ dX12_isWord_21
  · refine lv_aload_n hx hb dX12_isWord_8 rfl (lv_at hl 0 rfl) ?_
    refine f_12_15 F w (a := 146) rfl tb_603 dX12_isWord_9 ?_
    obtain ⟨z3, bz3, ez3⟩ := IvR.ld (k := 15) hI (show ivr 146 15 = ((-2147483648), 2147483647) from rfl) (show 146 ≤ 146 ∧ 146 < 159 by decide)
    refine r_val ez3 ?_
    refine lv_iload_n hx hb dX12_isWord_12 rfl (lv_at hl 1 rfl) ?_
    refine z_icmp_ne (tgt := 20) hx hb (by omega) (by omega) dX12_isWord_13 (by decide) (fun c4 => ?_) (fun c4 => ?_)
    · refine lv_iconst (v := zI 0) hx hb dX12_isWord_20 rfl ?_
      rw [hQ]
      exact e_z F w hr hlocks (nar_z (by omega)) ⟨_, rfl, ⟨by omega, by omega⟩, rfl⟩ dX12_isWord_21
    · refine lv_iconst (v := zI 1) hx hb dX12_isWord_16 rfl ?_
      refine lv_goto (tgt := 21) hx hb dX12_isWord_17 (by decide) ?_
      rw [hQ]
      exact e_z F w hr hlocks (nar_z (by omega)) ⟨_, rfl, ⟨by omega, by omega⟩, rfl⟩ dX12_isWord_21
theorem dX12_isRule_0 : decode cX12_isRule 0 = .ok (.iload_n 1, 1) := rdX12_isRule_0
theorem dX12_isRule_1 : decode cX12_isRule 1 = .ok (.iconst 0, 1) := rdX12_isRule_1
theorem dX12_isRule_2 : decode cX12_isRule 2 = .ok (.aload_n 0, 1) := rdX12_isRule_2
theorem dX12_isRule_3 : decode cX12_isRule 3 = .ok (.getfield 239, 3) := rdX12_isRule_3
theorem tb_604 : Cond.fieldLink "ToneLinesModel" 239 "ToneLinesModel" "ruleMany" "I" ∈ TB := rtb_165
theorem dX12_isRule_6 : decode cX12_isRule 6 = .ok (.iconst 1, 1) := rdX12_isRule_6
theorem dX12_isRule_7 : decode cX12_isRule 7 = .ok (.isub, 1) := rdX12_isRule_7
theorem dX12_isRule_8 : decode cX12_isRule 8 = .ok (.invokestatic 55, 3) := rdX12_isRule_8
theorem dX12_isRule_11 : decode cX12_isRule 11 = .ok (.ireturn, 1) := rdX12_isRule_11
set_option maxRecDepth 4000 in
theorem q_X12_isRule {l : Launch} {D : va_G} {B : Nat} {cy : Nat → ClassId} {M : Mem} {x : Int} (hx : (-2147483648) ≤ x ∧ x ≤ 2147483647) (hI : IvR M) : Ci l D B cy yX12_isRule cX12_isRule 2 (some .boolean) 1 22 [.ref (B + 146), .int (zI x)] M (fun r M1 => ∃ z : Int, r = zI z ∧ (0 ≤ z ∧ z ≤ 1) ∧ (z = 0 ∨ (0 ≤ x ∧ x ≤ 7)) ∧ M1 = M) := by
  refine s_anyQ (by decide) (Nat.le_of_ble_eq_true rfl) ?_
  intro p e s m args below meth c ls Q F hr hlocks hQ w hl
  have F : CallFix p m c cX12_isRule 2 s args TB RX12 := F
  have hx := F.1
  have hb := F.2.1
  have hl : lv_has ls 2 [(0, .ref (B + 146)), (1, .int (zI x))] := hl
  refine lv_iload_n hx hb dX12_isRule_0 rfl (lv_at hl 1 rfl) ?_
  refine lv_iconst (v := zI 0) hx hb dX12_isRule_1 rfl ?_
  refine lv_aload_n hx hb dX12_isRule_2 rfl (lv_at hl 0 rfl) ?_
  refine f_12_5 F w (a := 146) rfl tb_604 dX12_isRule_3 ?_
  obtain ⟨z1, bz1, ez1⟩ := IvR.ld (k := 5) hI (show ivr 146 5 = (0, 8) from rfl) (show 146 ≤ 146 ∧ 146 < 159 by decide)
  refine r_val ez1 ?_
  refine lv_iconst (v := zI 1) hx hb dX12_isRule_6 rfl ?_
  refine z_isub (z := (z1 - 1)) hx hb dX12_isRule_7 (by omega) ?_
  refine k_Si F w (As := [.int (zI x), .int (zI 0), .int (zI (z1 - 1))]) (rest := []) (q_X12_in (x := x) ⟨by omega, by omega⟩ (x1 := 0) ⟨by omega, by omega⟩ (x2 := (z1 - 1)) ⟨by omega, by omega⟩  hI) gs_X12_55 hs_X12_in ⟨(Nat.le_of_ble_eq_true rfl), (Nat.le_of_ble_eq_true rfl)⟩ hl.1 rfl (Nat.le_of_ble_eq_true rfl) ⟨Nat.zero_le _, Nat.zero_le _⟩ dX12_isRule_8 (fun r2 N3 H locs hp w => ?_)
  obtain ⟨z4, rfl, bz4, xz4, hMN3⟩ := hp
  rw [hMN3] at w
  rw [hQ]
  exact e_z F w hr hlocks (nar_z (by omega)) ⟨_, rfl, ⟨by omega, by omega⟩, (by omega), rfl⟩ dX12_isRule_11
theorem dX12_marks_0 : decode cX12_marks 0 = .ok (.iconst 1, 1) := wdX12_marks_0
theorem dX12_marks_1 : decode cX12_marks 1 = .ok (.iload_n 1, 1) := wdX12_marks_1
theorem dX12_marks_2 : decode cX12_marks 2 = .ok (.ishl, 1) := wdX12_marks_2
theorem dX12_marks_3 : decode cX12_marks 3 = .ok (.istore 4, 2) := wdX12_marks_3
theorem dX12_marks_5 : decode cX12_marks 5 = .ok (.aload_n 0, 1) := wdX12_marks_5
theorem dX12_marks_6 : decode cX12_marks 6 = .ok (.getfield 13, 3) := wdX12_marks_6
theorem dX12_marks_9 : decode cX12_marks 9 = .ok (.bipush 26, 2) := wdX12_marks_9
theorem dX12_marks_11 : decode cX12_marks 11 = .ok (.iload_n 2, 1) := wdX12_marks_11
theorem dX12_marks_12 : decode cX12_marks 12 = .ok (.ifCond .eq 16, 3) := wdX12_marks_12
theorem dX12_marks_28 : decode cX12_marks 28 = .ok (.aload_n 0, 1) := wdX12_marks_28
theorem dX12_marks_29 : decode cX12_marks 29 = .ok (.getfield 13, 3) := wdX12_marks_29
theorem dX12_marks_32 : decode cX12_marks 32 = .ok (.bipush 26, 2) := wdX12_marks_32
theorem dX12_marks_34 : decode cX12_marks 34 = .ok (.iaload, 1) := wdX12_marks_34
theorem dX12_marks_35 : decode cX12_marks 35 = .ok (.iload 4, 2) := wdX12_marks_35
theorem dX12_marks_37 : decode cX12_marks 37 = .ok (.iconst (-1), 1) := wdX12_marks_37
theorem dX12_marks_38 : decode cX12_marks 38 = .ok (.ixor, 1) := wdX12_marks_38
theorem dX12_marks_39 : decode cX12_marks 39 = .ok (.iand, 1) := wdX12_marks_39
theorem dX12_marks_40 : decode cX12_marks 40 = .ok (.iastore, 1) := wdX12_marks_40
theorem dX12_marks_41 : decode cX12_marks 41 = .ok (.aload_n 0, 1) := wdX12_marks_41
theorem dX12_marks_42 : decode cX12_marks 42 = .ok (.getfield 13, 3) := wdX12_marks_42
theorem dX12_marks_45 : decode cX12_marks 45 = .ok (.bipush 27, 2) := wdX12_marks_45
theorem dX12_marks_47 : decode cX12_marks 47 = .ok (.iload_n 3, 1) := wdX12_marks_47
theorem dX12_marks_48 : decode cX12_marks 48 = .ok (.ifCond .eq 16, 3) := wdX12_marks_48
theorem dX12_marks_64 : decode cX12_marks 64 = .ok (.aload_n 0, 1) := wdX12_marks_64
theorem dX12_marks_65 : decode cX12_marks 65 = .ok (.getfield 13, 3) := wdX12_marks_65
theorem dX12_marks_68 : decode cX12_marks 68 = .ok (.bipush 27, 2) := wdX12_marks_68
theorem dX12_marks_70 : decode cX12_marks 70 = .ok (.iaload, 1) := wdX12_marks_70
theorem dX12_marks_71 : decode cX12_marks 71 = .ok (.iload 4, 2) := wdX12_marks_71
theorem dX12_marks_73 : decode cX12_marks 73 = .ok (.iconst (-1), 1) := wdX12_marks_73
theorem dX12_marks_74 : decode cX12_marks 74 = .ok (.ixor, 1) := wdX12_marks_74
theorem dX12_marks_75 : decode cX12_marks 75 = .ok (.iand, 1) := wdX12_marks_75
theorem dX12_marks_76 : decode cX12_marks 76 = .ok (.iastore, 1) := wdX12_marks_76
theorem dX12_marks_77 : decode cX12_marks 77 = .ok (.return_, 1) := wdX12_marks_77
theorem dX12_marks_51 : decode cX12_marks 51 = .ok (.aload_n 0, 1) := wdX12_marks_51
theorem dX12_marks_52 : decode cX12_marks 52 = .ok (.getfield 13, 3) := wdX12_marks_52
theorem dX12_marks_55 : decode cX12_marks 55 = .ok (.bipush 27, 2) := wdX12_marks_55
theorem dX12_marks_57 : decode cX12_marks 57 = .ok (.iaload, 1) := wdX12_marks_57
theorem dX12_marks_58 : decode cX12_marks 58 = .ok (.iload 4, 2) := wdX12_marks_58
theorem dX12_marks_60 : decode cX12_marks 60 = .ok (.ior, 1) := wdX12_marks_60
theorem dX12_marks_61 : decode cX12_marks 61 = .ok (.goto 15, 3) := wdX12_marks_61
theorem dX12_marks_15 : decode cX12_marks 15 = .ok (.aload_n 0, 1) := wdX12_marks_15
theorem dX12_marks_16 : decode cX12_marks 16 = .ok (.getfield 13, 3) := wdX12_marks_16
theorem dX12_marks_19 : decode cX12_marks 19 = .ok (.bipush 26, 2) := wdX12_marks_19
theorem dX12_marks_21 : decode cX12_marks 21 = .ok (.iaload, 1) := wdX12_marks_21
theorem dX12_marks_22 : decode cX12_marks 22 = .ok (.iload 4, 2) := wdX12_marks_22
theorem dX12_marks_24 : decode cX12_marks 24 = .ok (.ior, 1) := wdX12_marks_24
theorem dX12_marks_25 : decode cX12_marks 25 = .ok (.goto 15, 3) := wdX12_marks_25
set_option maxRecDepth 4000 in
theorem q_X12_marks {l : Launch} {D : va_G} {B : Nat} {cy : Nat → ClassId} {M : Mem} {y : Int} (hy : 0 ≤ y ∧ y ≤ 11) {x : Int} (hx : 0 ≤ x ∧ x ≤ 1) {x1 : Int} (hx1 : 0 ≤ x1 ∧ x1 ≤ 1) (hI : IvR M) : Cv l D B cy yX12_marks cX12_marks 5 0 0 [.ref (B + 146), .int (zI y), .int (zI x), .int (zI x1)] M (fun M1 => IvR M1 ∧ Fr (fun b9 k9 => (b9 = 147 ∧ 26 ≤ k9 ∧ k9 ≤ 26) ∨ (b9 = 147 ∧ 27 ≤ k9 ∧ k9 ≤ 27)) M1 M) := by
  refine s_anyQ (by decide) (Nat.le_of_ble_eq_true rfl) ?_
  intro p e s m args below meth c ls Q F hr hlocks hQ w hl
  have F : CallFix p m c cX12_marks 5 s args TB RX12 := F
  have hx := F.1
  have hb := F.2.1
  have hl : lv_has ls 5 [(0, .ref (B + 146)), (1, .int (zI y)), (2, .int (zI x)), (3, .int (zI x1))] := hl
  have hF : Fr (fun b9 k9 => (b9 = 147 ∧ 26 ≤ k9 ∧ k9 ≤ 26) ∨ (b9 = 147 ∧ 27 ≤ k9 ∧ k9 ≤ 27)) M M := Fr.rf
  refine lv_iconst (v := zI 1) hx hb dX12_marks_0 rfl ?_
  refine lv_iload_n hx hb dX12_marks_1 rfl (lv_at hl 1 rfl) ?_
  obtain ⟨z1, bz1, x0z1, ez1⟩ := shl_ex 1 y
  refine lv_ishl hx hb dX12_marks_2 ?_
  refine r_val ez1 ?_
  refine lv_istore (lv' := [(4, .int (zI z1)), (0, .ref (B + 146)), (1, .int (zI y)), (2, .int (zI x)), (3, .int (zI x1))]) hx hb dX12_marks_3 hl (by decide) rfl (fun ls hl => ?_)
  refine lv_aload_n hx hb dX12_marks_5 rfl (lv_at hl 1 rfl) ?_
  refine f_12_1 F w (a := 146) rfl tb_580 dX12_marks_6 ?_
  refine lv_bipush (v := zI 26) hx hb dX12_marks_9 (by decide) ?_
  refine lv_iload_n hx hb dX12_marks_11 rfl (lv_at hl 3 rfl) ?_
  refine z_if_eq (tgt := 28) hx hb (by omega) dX12_marks_12 (by decide) (fun c2 => ?_) (fun c2 => ?_)
  · refine lv_aload_n hx hb dX12_marks_28 rfl (lv_at hl 1 rfl) ?_
    refine f_12_1 F w (a := 146) rfl tb_580 dX12_marks_29 ?_
    refine lv_bipush (v := zI 26) hx hb dX12_marks_32 (by decide) ?_
    refine g_iald F w (a := 147) rfl (j := 26) ⟨by decide, by decide⟩ (by omega) dX12_marks_34 ?_
    obtain ⟨z3, bz3, ez3⟩ := IvR.ld (k := 26) hI (show ivr 147 26 = (0, 4095) from rfl) (show 146 ≤ 147 ∧ 147 < 159 by decide)
    refine r_val ez3 ?_
    refine lv_iload hx hb dX12_marks_35 (lv_at hl 0 rfl) ?_
    refine lv_iconst (v := zI (-1)) hx hb dX12_marks_37 rfl ?_
    refine lv_ixor hx hb dX12_marks_38 ?_
    refine r_val (not_ex z1) ?_
    obtain ⟨z4, bz4, x0z4, x1z4, ez4⟩ := and_ex z3 (-z1 - 1) (by omega) (by omega)
    refine lv_iand hx hb dX12_marks_39 ?_
    refine r_val ez4 ?_
    refine g_iast F w (a := 147) rfl (j := 26) ⟨by decide, by decide⟩ (by omega) dX12_marks_40 (fun H locs w => ?_)
    refine lv_aload_n hx hb dX12_marks_41 rfl (lv_at hl 1 rfl) ?_
    refine f_12_1 F w (a := 146) rfl tb_580 dX12_marks_42 ?_
    refine lv_bipush (v := zI 27) hx hb dX12_marks_45 (by decide) ?_
    refine lv_iload_n hx hb dX12_marks_47 rfl (lv_at hl 4 rfl) ?_
    refine z_if_eq (tgt := 64) hx hb (by omega) dX12_marks_48 (by decide) (fun c5 => ?_) (fun c5 => ?_)
    · refine lv_aload_n hx hb dX12_marks_64 rfl (lv_at hl 1 rfl) ?_
      refine f_12_1 F w (a := 146) rfl tb_580 dX12_marks_65 ?_
      refine lv_bipush (v := zI 27) hx hb dX12_marks_68 (by decide) ?_
      refine g_iald F w (a := 147) rfl (j := 27) ⟨by decide, by decide⟩ (by omega) dX12_marks_70 ?_
      obtain ⟨z6, bz6, ez6⟩ := IvR.ld (k := 27) (IvR.to hI (a := 147) (k := 26) (x := z4) (show ivr 147 26 = (0, 4095) from rfl) ⟨by omega, by omega⟩ ⟨by decide, by decide, by decide, fun _ => ⟨by omega, by omega⟩⟩) (show ivr 147 27 = (0, 4095) from rfl) (show 146 ≤ 147 ∧ 147 < 159 by decide)
      refine r_val ez6 ?_
      refine lv_iload hx hb dX12_marks_71 (lv_at hl 0 rfl) ?_
      refine lv_iconst (v := zI (-1)) hx hb dX12_marks_73 rfl ?_
      refine lv_ixor hx hb dX12_marks_74 ?_
      refine r_val (not_ex z1) ?_
      obtain ⟨z7, bz7, x0z7, x1z7, ez7⟩ := and_ex z6 (-z1 - 1) (by omega) (by omega)
      refine lv_iand hx hb dX12_marks_75 ?_
      refine r_val ez7 ?_
      refine g_iast F w (a := 147) rfl (j := 27) ⟨by decide, by decide⟩ (by omega) dX12_marks_76 (fun H locs w => ?_)
      rw [hQ]
      exact e_v F w hr hlocks ⟨(IvR.to (IvR.to hI (a := 147) (k := 26) (x := z4) (show ivr 147 26 = (0, 4095) from rfl) ⟨by omega, by omega⟩ ⟨by decide, by decide, by decide, fun _ => ⟨by omega, by omega⟩⟩) (a := 147) (k := 27) (x := z7) (show ivr 147 27 = (0, 4095) from rfl) ⟨by omega, by omega⟩ ⟨by decide, by decide, by decide, fun _ => ⟨by omega, by omega⟩⟩), (Fr.to (Fr.to hF (by first | decide | (dsimp only; first | done | decide | omega) | omega)) (by first | decide | (dsimp only; first | done | decide | omega) | omega))⟩ dX12_marks_77
    · refine lv_aload_n hx hb dX12_marks_51 rfl (lv_at hl 1 rfl) ?_
      refine f_12_1 F w (a := 146) rfl tb_580 dX12_marks_52 ?_
      refine lv_bipush (v := zI 27) hx hb dX12_marks_55 (by decide) ?_
      refine g_iald F w (a := 147) rfl (j := 27) ⟨by decide, by decide⟩ (by omega) dX12_marks_57 ?_
      obtain ⟨z8, bz8, ez8⟩ := IvR.ld (k := 27) (IvR.to hI (a := 147) (k := 26) (x := z4) (show ivr 147 26 = (0, 4095) from rfl) ⟨by omega, by omega⟩ ⟨by decide, by decide, by decide, fun _ => ⟨by omega, by omega⟩⟩) (show ivr 147 27 = (0, 4095) from rfl) (show 146 ≤ 147 ∧ 147 < 159 by decide)
      refine r_val ez8 ?_
      refine lv_iload hx hb dX12_marks_58 (lv_at hl 0 rfl) ?_
      obtain ⟨z9, bz9, x0z9, ez9⟩ := or_ex z8 z1
      refine lv_ior hx hb dX12_marks_60 ?_
      refine r_val ez9 ?_
      refine lv_goto (tgt := 76) hx hb dX12_marks_61 (by decide) ?_
      refine g_iast F w (a := 147) rfl (j := 27) ⟨by decide, by decide⟩ (by omega) dX12_marks_76 (fun H locs w => ?_)
      rw [hQ]
      exact e_v F w hr hlocks ⟨(IvR.to (IvR.to hI (a := 147) (k := 26) (x := z4) (show ivr 147 26 = (0, 4095) from rfl) ⟨by omega, by omega⟩ ⟨by decide, by decide, by decide, fun _ => ⟨by omega, by omega⟩⟩) (a := 147) (k := 27) (x := z9) (show ivr 147 27 = (0, 4095) from rfl) ⟨by omega, by omega⟩ ⟨by decide, by decide, by decide, fun _ => ⟨by omega, by omega⟩⟩), (Fr.to (Fr.to hF (by first | decide | (dsimp only; first | done | decide | omega) | omega)) (by first | decide | (dsimp only; first | done | decide | omega) | omega))⟩ dX12_marks_77
  · refine lv_aload_n hx hb dX12_marks_15 rfl (lv_at hl 1 rfl) ?_
    refine f_12_1 F w (a := 146) rfl tb_580 dX12_marks_16 ?_
    refine lv_bipush (v := zI 26) hx hb dX12_marks_19 (by decide) ?_
    refine g_iald F w (a := 147) rfl (j := 26) ⟨by decide, by decide⟩ (by omega) dX12_marks_21 ?_
    obtain ⟨z10, bz10, ez10⟩ := IvR.ld (k := 26) hI (show ivr 147 26 = (0, 4095) from rfl) (show 146 ≤ 147 ∧ 147 < 159 by decide)
    refine r_val ez10 ?_
    refine lv_iload hx hb dX12_marks_22 (lv_at hl 0 rfl) ?_
    obtain ⟨z11, bz11, x0z11, ez11⟩ := or_ex z10 z1
    refine lv_ior hx hb dX12_marks_24 ?_
    refine r_val ez11 ?_
    refine lv_goto (tgt := 40) hx hb dX12_marks_25 (by decide) ?_
    refine g_iast F w (a := 147) rfl (j := 26) ⟨by decide, by decide⟩ (by omega) dX12_marks_40 (fun H locs w => ?_)
    refine lv_aload_n hx hb dX12_marks_41 rfl (lv_at hl 1 rfl) ?_
    refine f_12_1 F w (a := 146) rfl tb_580 dX12_marks_42 ?_
    refine lv_bipush (v := zI 27) hx hb dX12_marks_45 (by decide) ?_
    refine lv_iload_n hx hb dX12_marks_47 rfl (lv_at hl 4 rfl) ?_
    refine z_if_eq (tgt := 64) hx hb (by omega) dX12_marks_48 (by decide) (fun c12 => ?_) (fun c12 => ?_)
    · refine lv_aload_n hx hb dX12_marks_64 rfl (lv_at hl 1 rfl) ?_
      refine f_12_1 F w (a := 146) rfl tb_580 dX12_marks_65 ?_
      refine lv_bipush (v := zI 27) hx hb dX12_marks_68 (by decide) ?_
      refine g_iald F w (a := 147) rfl (j := 27) ⟨by decide, by decide⟩ (by omega) dX12_marks_70 ?_
      obtain ⟨z13, bz13, ez13⟩ := IvR.ld (k := 27) (IvR.to hI (a := 147) (k := 26) (x := z11) (show ivr 147 26 = (0, 4095) from rfl) ⟨by omega, by omega⟩ ⟨by decide, by decide, by decide, fun _ => ⟨by omega, by omega⟩⟩) (show ivr 147 27 = (0, 4095) from rfl) (show 146 ≤ 147 ∧ 147 < 159 by decide)
      refine r_val ez13 ?_
      refine lv_iload hx hb dX12_marks_71 (lv_at hl 0 rfl) ?_
      refine lv_iconst (v := zI (-1)) hx hb dX12_marks_73 rfl ?_
      refine lv_ixor hx hb dX12_marks_74 ?_
      refine r_val (not_ex z1) ?_
      obtain ⟨z14, bz14, x0z14, x1z14, ez14⟩ := and_ex z13 (-z1 - 1) (by omega) (by omega)
      refine lv_iand hx hb dX12_marks_75 ?_
      refine r_val ez14 ?_
      refine g_iast F w (a := 147) rfl (j := 27) ⟨by decide, by decide⟩ (by omega) dX12_marks_76 (fun H locs w => ?_)
      rw [hQ]
      exact e_v F w hr hlocks ⟨(IvR.to (IvR.to hI (a := 147) (k := 26) (x := z11) (show ivr 147 26 = (0, 4095) from rfl) ⟨by omega, by omega⟩ ⟨by decide, by decide, by decide, fun _ => ⟨by omega, by omega⟩⟩) (a := 147) (k := 27) (x := z14) (show ivr 147 27 = (0, 4095) from rfl) ⟨by omega, by omega⟩ ⟨by decide, by decide, by decide, fun _ => ⟨by omega, by omega⟩⟩), (Fr.to (Fr.to hF (by first | decide | (dsimp only; first | done | decide | omega) | omega)) (by first | decide | (dsimp only; first | done | decide | omega) | omega))⟩ dX12_marks_77
    · refine lv_aload_n hx hb dX12_marks_51 rfl (lv_at hl 1 rfl) ?_
      refine f_12_1 F w (a := 146) rfl tb_580 dX12_marks_52 ?_
      refine lv_bipush (v := zI 27) hx hb dX12_marks_55 (by decide) ?_
      refine g_iald F w (a := 147) rfl (j := 27) ⟨by decide, by decide⟩ (by omega) dX12_marks_57 ?_
      obtain ⟨z15, bz15, ez15⟩ := IvR.ld (k := 27) (IvR.to hI (a := 147) (k := 26) (x := z11) (show ivr 147 26 = (0, 4095) from rfl) ⟨by omega, by omega⟩ ⟨by decide, by decide, by decide, fun _ => ⟨by omega, by omega⟩⟩) (show ivr 147 27 = (0, 4095) from rfl) (show 146 ≤ 147 ∧ 147 < 159 by decide)
      refine r_val ez15 ?_
      refine lv_iload hx hb dX12_marks_58 (lv_at hl 0 rfl) ?_
      obtain ⟨z16, bz16, x0z16, ez16⟩ := or_ex z15 z1
      refine lv_ior hx hb dX12_marks_60 ?_
      refine r_val ez16 ?_
      refine lv_goto (tgt := 76) hx hb dX12_marks_61 (by decide) ?_
      refine g_iast F w (a := 147) rfl (j := 27) ⟨by decide, by decide⟩ (by omega) dX12_marks_76 (fun H locs w => ?_)
      rw [hQ]
      exact e_v F w hr hlocks ⟨(IvR.to (IvR.to hI (a := 147) (k := 26) (x := z11) (show ivr 147 26 = (0, 4095) from rfl) ⟨by omega, by omega⟩ ⟨by decide, by decide, by decide, fun _ => ⟨by omega, by omega⟩⟩) (a := 147) (k := 27) (x := z16) (show ivr 147 27 = (0, 4095) from rfl) ⟨by omega, by omega⟩ ⟨by decide, by decide, by decide, fun _ => ⟨by omega, by omega⟩⟩), (Fr.to (Fr.to hF (by first | decide | (dsimp only; first | done | decide | omega) | omega)) (by first | decide | (dsimp only; first | done | decide | omega) | omega))⟩ dX12_marks_77
theorem dX12_isFall_0 : decode cX12_isFall 0 = .ok (.aload_n 0, 1) := dq0 kk_42 (by decide +kernel)
theorem dX12_isFall_1 : decode cX12_isFall 1 = .ok (.getfield 17, 3) := dqV kk_180 (by decide +kernel)
theorem dX12_isFall_4 : decode cX12_isFall 4 = .ok (.iconst 1, 1) := dq0 kk_4 (by decide +kernel)
theorem dX12_isFall_5 : decode cX12_isFall 5 = .ok (.iload_n 1, 1) := dq0 kk_27 (by decide +kernel)
theorem dX12_isFall_6 : decode cX12_isFall 6 = .ok (.iadd, 1) := dq0 kk_96 (by decide +kernel)
theorem dX12_isFall_7 : decode cX12_isFall 7 = .ok (.iaload, 1) := dq0 kk_46 (by decide +kernel)
theorem dX12_isFall_8 : decode cX12_isFall 8 = .ok (.iconst 2, 1) := dq0 kk_5 (by decide +kernel)
theorem dX12_isFall_9 : decode cX12_isFall 9 = .ok (.if_icmp .eq 5, 3) := dqT kk_159 (by decide +kernel)
theorem dX12_isFall_14 : decode cX12_isFall 14 = .ok (.iconst 0, 1) := dq0 kk_3 (by decide +kernel)
theorem dX12_isFall_15 : decode cX12_isFall 15 = .ok (.istore_n 2, 1) := dq0 kk_61 (by decide +kernel)
theorem dX12_isFall_16 : decode cX12_isFall 16 = .ok (.iload_n 1, 1) := dq0 kk_27 (by decide +kernel)
theorem dX12_isFall_17 : decode cX12_isFall 17 = .ok (.iconst 1, 1) := dq0 kk_4 (by decide +kernel)
theorem dX12_isFall_18 : decode cX12_isFall 18 = .ok (.isub, 1) := dq0 kk_100 (by decide +kernel)
theorem dX12_isFall_19 : decode cX12_isFall 19 = .ok (.istore_n 3, 1) := dq0 kk_62 (by decide +kernel)
theorem dX12_isFall_20 : decode cX12_isFall 20 = .ok (.iload_n 3, 1) := dq0 kk_29 (by decide +kernel)
theorem dX12_isFall_21 : decode cX12_isFall 21 = .ok (.ifCond .lt 44, 3) := dqT kk_155 (by decide +kernel)
theorem dX12_isFall_65 : decode cX12_isFall 65 = .ok (.iconst 0, 1) := dq0 kk_3 (by decide +kernel)
theorem dX12_isFall_66 : decode cX12_isFall 66 = .ok (.ireturn, 1) := dq0 kk_172 (by decide +kernel)
theorem dX12_isFall_24 : decode cX12_isFall 24 = .ok (.aload_n 0, 1) := dq0 kk_42 (by decide +kernel)
theorem dX12_isFall_25 : decode cX12_isFall 25 = .ok (.getfield 17, 3) := dqV kk_180 (by decide +kernel)
theorem dX12_isFall_28 : decode cX12_isFall 28 = .ok (.iconst 1, 1) := dq0 kk_4 (by decide +kernel)
theorem dX12_isFall_29 : decode cX12_isFall 29 = .ok (.iload_n 3, 1) := dq0 kk_29 (by decide +kernel)
theorem dX12_isFall_30 : decode cX12_isFall 30 = .ok (.iadd, 1) := dq0 kk_96 (by decide +kernel)
theorem dX12_isFall_31 : decode cX12_isFall 31 = .ok (.iaload, 1) := dq0 kk_46 (by decide +kernel)
theorem dX12_isFall_32 : decode cX12_isFall 32 = .ok (.iconst 2, 1) := dq0 kk_5 (by decide +kernel)
theorem dX12_isFall_33 : decode cX12_isFall 33 = .ok (.if_icmp .ne 5, 3) := dqT kk_160 (by decide +kernel)
theorem dX12_isFall_38 : decode cX12_isFall 38 = .ok (.iload_n 2, 1) := dq0 kk_28 (by decide +kernel)
theorem dX12_isFall_39 : decode cX12_isFall 39 = .ok (.ifCond .ne 14, 3) := dqT kk_154 (by decide +kernel)
theorem dX12_isFall_42 : decode cX12_isFall 42 = .ok (.aload_n 0, 1) := dq0 kk_42 (by decide +kernel)
theorem dX12_isFall_43 : decode cX12_isFall 43 = .ok (.getfield 17, 3) := dqV kk_180 (by decide +kernel)
theorem dX12_isFall_46 : decode cX12_isFall 46 = .ok (.iconst 1, 1) := dq0 kk_4 (by decide +kernel)
theorem dX12_isFall_47 : decode cX12_isFall 47 = .ok (.iload_n 3, 1) := dq0 kk_29 (by decide +kernel)
theorem dX12_isFall_48 : decode cX12_isFall 48 = .ok (.iadd, 1) := dq0 kk_96 (by decide +kernel)
theorem dX12_isFall_49 : decode cX12_isFall 49 = .ok (.iaload, 1) := dq0 kk_46 (by decide +kernel)
theorem dX12_isFall_50 : decode cX12_isFall 50 = .ok (.ifCond .ne 7, 3) := dqT kk_154 (by decide +kernel)
theorem dX12_isFall_57 : decode cX12_isFall 57 = .ok (.iconst 0, 1) := dq0 kk_3 (by decide +kernel)
theorem dX12_isFall_58 : decode cX12_isFall 58 = .ok (.istore_n 2, 1) := dq0 kk_61 (by decide +kernel)
theorem dX12_isFall_59 : decode cX12_isFall 59 = .ok (.iinc 3 (-1), 3) := dqI kk_132 (by decide +kernel)
theorem dX12_isFall_62 : decode cX12_isFall 62 = .ok (.goto (-42), 3) := dqT kk_167 (by decide +kernel)
theorem dX12_isFall_53 : decode cX12_isFall 53 = .ok (.iconst 1, 1) := dq0 kk_4 (by decide +kernel)
theorem dX12_isFall_54 : decode cX12_isFall 54 = .ok (.goto 4, 3) := dqT kk_167 (by decide +kernel)
theorem dX12_isFall_36 : decode cX12_isFall 36 = .ok (.iload_n 2, 1) := dq0 kk_28 (by decide +kernel)
theorem dX12_isFall_37 : decode cX12_isFall 37 = .ok (.ireturn, 1) := dq0 kk_172 (by decide +kernel)
theorem dX12_isFall_12 : decode cX12_isFall 12 = .ok (.iconst 0, 1) := dq0 kk_3 (by decide +kernel)
theorem dX12_isFall_13 : decode cX12_isFall 13 = .ok (.ireturn, 1) := dq0 kk_172 (by decide +kernel)
set_option maxRecDepth 4000 in
theorem q_X12_isFall {l : Launch} {D : va_G} {B : Nat} {cy : Nat → ClassId} {M : Mem} {t : Int} (ht : 0 ≤ t ∧ t ≤ 11) (hI : IvR M) : Ci l D B cy yX12_isFall cX12_isFall 4 (some .boolean) 0 0 [.ref (B + 146), .int (zI t)] M (fun r M1 => ∃ z : Int, r = zI z ∧ (0 ≤ z ∧ z ≤ 1) ∧ M1 = M) := by
  refine s_anyQ (by decide) (Nat.le_of_ble_eq_true rfl) ?_
  intro p e s m args below meth c ls Q F hr hlocks hQ w hl
  have F : CallFix p m c cX12_isFall 4 s args TB RX12 := F
  have hx := F.1
  have hb := F.2.1
  have hl : lv_has ls 4 [(0, .ref (B + 146)), (1, .int (zI t))] := hl
  refine lv_aload_n hx hb dX12_isFall_0 rfl (lv_at hl 0 rfl) ?_
  refine f_12_2 F w (a := 146) rfl tb_45 dX12_isFall_1 ?_
  refine lv_iconst (v := zI 1) hx hb dX12_isFall_4 rfl ?_
  refine lv_iload_n hx hb dX12_isFall_5 rfl (lv_at hl 1 rfl) ?_
  refine z_iadd (z := (t + 1)) hx hb dX12_isFall_6 (by omega) ?_
  refine g_iald F w (a := 148) rfl (j := (Int.toNat (t + 1))) (ix_z (by omega) (by omega)) (by omega) dX12_isFall_7 ?_
  obtain ⟨z1, bz1, ez1⟩ := IvR.ld (k := (Int.toNat (t + 1))) hI (wiv_k (a := 148) (k := (Int.toNat (t + 1))) (by omega) (by omega)) (show 146 ≤ 148 ∧ 148 < 159 by decide)
  refine r_val ez1 ?_
  refine lv_iconst (v := zI 2) hx hb dX12_isFall_8 rfl ?_
  refine z_icmp_eq (tgt := 14) hx hb (by omega) (by omega) dX12_isFall_9 (by decide) (fun c2 => ?_) (fun c2 => ?_)
  · refine lv_iconst (v := zI 0) hx hb dX12_isFall_14 rfl ?_
    refine lv_istore_n (lv' := [(2, .int (zI 0)), (0, .ref (B + 146)), (1, .int (zI t))]) hx hb dX12_isFall_15 rfl hl (by decide) rfl (fun ls hl => ?_)
    refine lv_iload_n hx hb dX12_isFall_16 rfl (lv_at hl 2 rfl) ?_
    refine lv_iconst (v := zI 1) hx hb dX12_isFall_17 rfl ?_
    refine z_isub (z := (t - 1)) hx hb dX12_isFall_18 (by omega) ?_
    refine lv_istore_n (lv' := [(3, .int (zI (t - 1))), (2, .int (zI 0)), (0, .ref (B + 146)), (1, .int (zI t))]) hx hb dX12_isFall_19 rfl hl (by decide) rfl (fun ls hl => ?_)
    have lp20 : ∀ (f : Nat) (v3_20 : Int) (v2_20 : Int), ((-1) ≤ v3_20 ∧ v3_20 ≤ 10) → (0 ≤ v2_20 ∧ v2_20 ≤ 1) → (Int.toNat (v3_20 - (-1)) < f) → ∀ (H : Heap) (locs : List Loc) (ls : Array Slot), Wd D B cy s s.heap M H locs → lv_has ls 4 [(3, .int (zI v3_20)), (2, .int (zI v2_20)), (0, .ref (B + 146)), (1, .int (zI t))] → W p l e (rmm 0 0) s m args below meth c H locs 0 0 Q (F0 m 20 ls []) := by
      intro f
      induction f with
      | zero => intros; omega
      | succ f ih20 =>
        intro v3_20 v2_20  iv3_20 iv2_20 hf20 H locs ls w hl
        refine lv_iload_n hx hb dX12_isFall_20 rfl (lv_at hl 0 rfl) ?_
        refine z_if_lt (tgt := 65) hx hb (by omega) dX12_isFall_21 (by decide) (fun c3 => ?_) (fun c3 => ?_)
        · refine lv_iconst (v := zI 0) hx hb dX12_isFall_65 rfl ?_
          rw [hQ]
          exact e_z F w hr hlocks (nar_z (by omega)) ⟨_, rfl, ⟨by omega, by omega⟩, rfl⟩ dX12_isFall_66
        · refine lv_aload_n hx hb dX12_isFall_24 rfl (lv_at hl 2 rfl) ?_
          refine f_12_2 F w (a := 146) rfl tb_45 dX12_isFall_25 ?_
          refine lv_iconst (v := zI 1) hx hb dX12_isFall_28 rfl ?_
          refine lv_iload_n hx hb dX12_isFall_29 rfl (lv_at hl 0 rfl) ?_
          refine z_iadd (z := (v3_20 + 1)) hx hb dX12_isFall_30 (by omega) ?_
          refine g_iald F w (a := 148) rfl (j := (Int.toNat (v3_20 + 1))) (ix_z (by omega) (by omega)) (by omega) dX12_isFall_31 ?_
          obtain ⟨z4, bz4, ez4⟩ := IvR.ld (k := (Int.toNat (v3_20 + 1))) hI (wiv_k (a := 148) (k := (Int.toNat (v3_20 + 1))) (by omega) (by omega)) (show 146 ≤ 148 ∧ 148 < 159 by decide)
          refine r_val ez4 ?_
          refine lv_iconst (v := zI 2) hx hb dX12_isFall_32 rfl ?_
          refine z_icmp_ne (tgt := 38) hx hb (by omega) (by omega) dX12_isFall_33 (by decide) (fun c5 => ?_) (fun c5 => ?_)
          · refine lv_iload_n hx hb dX12_isFall_38 rfl (lv_at hl 1 rfl) ?_
            refine z_if_ne (tgt := 53) hx hb (by omega) dX12_isFall_39 (by decide) (fun c6 => ?_) (fun c6 => ?_)
            · refine lv_iconst (v := zI 1) hx hb dX12_isFall_53 rfl ?_
              refine lv_goto (tgt := 58) hx hb dX12_isFall_54 (by decide) ?_
              refine lv_istore_n (lv' := [(2, .int (zI 1)), (3, .int (zI v3_20)), (0, .ref (B + 146)), (1, .int (zI t))]) hx hb dX12_isFall_58 rfl hl (by decide) rfl (fun ls hl => ?_)
              refine z_iinc (v := (v3_20 - 1)) (lv' := [(3, .int (zI (v3_20 - 1))), (2, .int (zI 1)), (0, .ref (B + 146)), (1, .int (zI t))]) hx hb dX12_isFall_59 hl (k := 1) rfl (by omega) (by decide) rfl (fun ls hl => ?_)
              refine lv_goto (tgt := 20) hx hb dX12_isFall_62 (by decide) ?_
              exact ih20 (v3_20 - 1) 1 (by omega) (by omega)     (by omega) _ _ _ w (lv_sub hl [0, 1, 2, 3] rfl)
            · refine lv_aload_n hx hb dX12_isFall_42 rfl (lv_at hl 2 rfl) ?_
              refine f_12_2 F w (a := 146) rfl tb_45 dX12_isFall_43 ?_
              refine lv_iconst (v := zI 1) hx hb dX12_isFall_46 rfl ?_
              refine lv_iload_n hx hb dX12_isFall_47 rfl (lv_at hl 0 rfl) ?_
              refine z_iadd (z := (v3_20 + 1)) hx hb dX12_isFall_48 (by omega) ?_
              refine g_iald F w (a := 148) rfl (j := (Int.toNat (v3_20 + 1))) (ix_z (by omega) (by omega)) (by omega) dX12_isFall_49 ?_
              refine r_val (v := zI z4) (ez4) ?_
              refine z_if_ne (tgt := 57) hx hb (by omega) dX12_isFall_50 (by decide) (fun c7 => ?_) (fun c7 => ?_)
              · refine lv_iconst (v := zI 0) hx hb dX12_isFall_57 rfl ?_
                refine lv_istore_n (lv' := [(2, .int (zI 0)), (3, .int (zI v3_20)), (0, .ref (B + 146)), (1, .int (zI t))]) hx hb dX12_isFall_58 rfl hl (by decide) rfl (fun ls hl => ?_)
                refine z_iinc (v := (v3_20 - 1)) (lv' := [(3, .int (zI (v3_20 - 1))), (2, .int (zI 0)), (0, .ref (B + 146)), (1, .int (zI t))]) hx hb dX12_isFall_59 hl (k := 1) rfl (by omega) (by decide) rfl (fun ls hl => ?_)
                refine lv_goto (tgt := 20) hx hb dX12_isFall_62 (by decide) ?_
                exact ih20 (v3_20 - 1) 0 (by omega) (by omega)     (by omega) _ _ _ w (lv_sub hl [0, 1, 2, 3] rfl)
              · refine lv_iconst (v := zI 1) hx hb dX12_isFall_53 rfl ?_
                refine lv_goto (tgt := 58) hx hb dX12_isFall_54 (by decide) ?_
                refine lv_istore_n (lv' := [(2, .int (zI 1)), (3, .int (zI v3_20)), (0, .ref (B + 146)), (1, .int (zI t))]) hx hb dX12_isFall_58 rfl hl (by decide) rfl (fun ls hl => ?_)
                refine z_iinc (v := (v3_20 - 1)) (lv' := [(3, .int (zI (v3_20 - 1))), (2, .int (zI 1)), (0, .ref (B + 146)), (1, .int (zI t))]) hx hb dX12_isFall_59 hl (k := 1) rfl (by omega) (by decide) rfl (fun ls hl => ?_)
                refine lv_goto (tgt := 20) hx hb dX12_isFall_62 (by decide) ?_
                exact ih20 (v3_20 - 1) 1 (by omega) (by omega)     (by omega) _ _ _ w (lv_sub hl [0, 1, 2, 3] rfl)
          · refine lv_iload_n hx hb dX12_isFall_36 rfl (lv_at hl 1 rfl) ?_
            rw [hQ]
            exact e_z F w hr hlocks (nar_z (by omega)) ⟨_, rfl, ⟨by omega, by omega⟩, rfl⟩ dX12_isFall_37
    exact lp20 _ (t - 1) 0 (by omega) (by omega) (Nat.lt_succ_self _) _ _ _ w (lv_sub hl [0, 1, 2, 3] rfl)
  · refine lv_iconst (v := zI 0) hx hb dX12_isFall_12 rfl ?_
    rw [hQ]
    exact e_z F w hr hlocks (nar_z (by omega)) ⟨_, rfl, ⟨by omega, by omega⟩, rfl⟩ dX12_isFall_13
theorem dX12_fallsTo_0 : decode cX12_fallsTo 0 = .ok (.iconst 0, 1) := dq0 kk_3 (by decide +kernel)
theorem dX12_fallsTo_1 : decode cX12_fallsTo 1 = .ok (.istore_n 2, 1) := dq0 kk_61 (by decide +kernel)
theorem dX12_fallsTo_2 : decode cX12_fallsTo 2 = .ok (.iconst 0, 1) := dq0 kk_3 (by decide +kernel)
theorem dX12_fallsTo_3 : decode cX12_fallsTo 3 = .ok (.istore_n 3, 1) := dq0 kk_62 (by decide +kernel)
theorem dX12_fallsTo_4 : decode cX12_fallsTo 4 = .ok (.iload_n 3, 1) := dq0 kk_29 (by decide +kernel)
theorem dX12_fallsTo_5 : decode cX12_fallsTo 5 = .ok (.iload_n 1, 1) := dq0 kk_27 (by decide +kernel)
theorem dX12_fallsTo_6 : decode cX12_fallsTo 6 = .ok (.if_icmp .gt 20, 3) := dqT kk_163 (by decide +kernel)
theorem dX12_fallsTo_26 : decode cX12_fallsTo 26 = .ok (.iload_n 2, 1) := dq0 kk_28 (by decide +kernel)
theorem dX12_fallsTo_27 : decode cX12_fallsTo 27 = .ok (.ireturn, 1) := dq0 kk_172 (by decide +kernel)
theorem dX12_fallsTo_9 : decode cX12_fallsTo 9 = .ok (.aload_n 0, 1) := dq0 kk_42 (by decide +kernel)
theorem dX12_fallsTo_10 : decode cX12_fallsTo 10 = .ok (.iload_n 3, 1) := dq0 kk_29 (by decide +kernel)
theorem dX12_fallsTo_11 : decode cX12_fallsTo 11 = .ok (.invokevirtual 258, 3) := dqV kk_182 (by decide +kernel)
theorem tk_X12_isFall : Cond.code yX12_isFall cX12_isFall 4 (some .boolean) ∈ TB := tbm (tc6 (List.mem_of_getElem? (i := 173) rfl)) rfl
theorem gc_X12_isFall : GoodIn TB (cw yX12_isFall cX12_isFall 4 (some .boolean)) := goodIn_c2 tk_X12_isFall
theorem tb_605 : Cond.methodLink "ToneLinesModel" 258 yX12_isFall ∈ TB := tbm (tc6 (List.mem_of_getElem? (i := 170) rfl)) rfl
theorem tb_606 : Cond.instanceMethod yX12_isFall ∈ TB := tbm (tc6 (List.mem_of_getElem? (i := 172) rfl)) rfl
theorem tb_607 : Cond.selects "ToneLinesModel" yX12_isFall yX12_isFall ∈ TB := tbp (List.mem_of_getElem? (i := 77) rfl) rfl
theorem gv_X12_258 : GoodIn TB (wsV RX12 258 RX12 yX12_isFall (cw yX12_isFall cX12_isFall 4 (some .boolean))) := goodIn_4 tb_605 tb_606 tb_607 tb_38 gc_X12_isFall
theorem hv_X12_isFall : yX12_isFall.cls = RX12 ∧ yX12_isFall.cls ≠ "java/lang/invoke/MethodHandle" ∧ yX12_isFall.cls ≠ "java/lang/invoke/VarHandle" ∧ (parseMethodDescriptor yX12_isFall.desc).map (fun d => d.parameters.length) = some 1 := by decide +kernel
theorem dX12_fallsTo_14 : decode cX12_fallsTo 14 = .ok (.ifCond .eq 6, 3) := dqT kk_153 (by decide +kernel)
theorem dX12_fallsTo_20 : decode cX12_fallsTo 20 = .ok (.iinc 3 1, 3) := dqI kk_132 (by decide +kernel)
theorem dX12_fallsTo_23 : decode cX12_fallsTo 23 = .ok (.goto (-19), 3) := dqT kk_167 (by decide +kernel)
theorem dX12_fallsTo_17 : decode cX12_fallsTo 17 = .ok (.iinc 2 1, 3) := dqI kk_132 (by decide +kernel)
set_option maxRecDepth 4000 in
theorem q_X12_fallsTo {l : Launch} {D : va_G} {B : Nat} {cy : Nat → ClassId} {M : Mem} {t : Int} (ht : (-1) ≤ t ∧ t ≤ 11) (hI : IvR M) : Ci l D B cy yX12_fallsTo cX12_fallsTo 4 (some .int) 1 23 [.ref (B + 146), .int (zI t)] M (fun r M1 => ∃ z : Int, r = zI z ∧ ((-2147483648) ≤ z ∧ z ≤ 2147483647) ∧ M1 = M) := by
  refine s_anyQ (by decide) (Nat.le_of_ble_eq_true rfl) ?_
  intro p e s m args below meth c ls Q F hr hlocks hQ w hl
  have F : CallFix p m c cX12_fallsTo 4 s args TB RX12 := F
  have hx := F.1
  have hb := F.2.1
  have hl : lv_has ls 4 [(0, .ref (B + 146)), (1, .int (zI t))] := hl
  refine lv_iconst (v := zI 0) hx hb dX12_fallsTo_0 rfl ?_
  refine lv_istore_n (lv' := [(2, .int (zI 0)), (0, .ref (B + 146)), (1, .int (zI t))]) hx hb dX12_fallsTo_1 rfl hl (by decide) rfl (fun ls hl => ?_)
  refine lv_iconst (v := zI 0) hx hb dX12_fallsTo_2 rfl ?_
  refine lv_istore_n (lv' := [(3, .int (zI 0)), (2, .int (zI 0)), (0, .ref (B + 146)), (1, .int (zI t))]) hx hb dX12_fallsTo_3 rfl hl (by decide) rfl (fun ls hl => ?_)
  have lp4 : ∀ (f : Nat) (v3_4 : Int) (v2_4 : Int), (0 ≤ v3_4 ∧ v3_4 ≤ 12) → ((-2147483648) ≤ v2_4 ∧ v2_4 ≤ 2147483647) → (Int.toNat (12 - v3_4) < f) → ∀ (H : Heap) (locs : List Loc) (ls : Array Slot), Wd D B cy s s.heap M H locs → lv_has ls 4 [(3, .int (zI v3_4)), (2, .int (zI v2_4)), (0, .ref (B + 146)), (1, .int (zI t))] → W p l e (rmm 1 23) s m args below meth c H locs 0 0 Q (F0 m 4 ls []) := by
    intro f
    induction f with
    | zero => intros; omega
    | succ f ih4 =>
      intro v3_4 v2_4  iv3_4 iv2_4 hf4 H locs ls w hl
      refine lv_iload_n hx hb dX12_fallsTo_4 rfl (lv_at hl 0 rfl) ?_
      refine lv_iload_n hx hb dX12_fallsTo_5 rfl (lv_at hl 3 rfl) ?_
      refine z_icmp_gt (tgt := 26) hx hb (by omega) (by omega) dX12_fallsTo_6 (by decide) (fun c1 => ?_) (fun c1 => ?_)
      · refine lv_iload_n hx hb dX12_fallsTo_26 rfl (lv_at hl 1 rfl) ?_
        rw [hQ]
        exact e_i F w hr hlocks ⟨_, rfl, ⟨by omega, by omega⟩, rfl⟩ dX12_fallsTo_27
      · refine lv_aload_n hx hb dX12_fallsTo_9 rfl (lv_at hl 2 rfl) ?_
        refine lv_iload_n hx hb dX12_fallsTo_10 rfl (lv_at hl 0 rfl) ?_
        refine k_Vi F w (As := [.int (zI v3_4)]) (rest := []) (a := 146) (kd_lt (a := 146) (show kd 146 = (12, 0, 0) from rfl) (by decide)) (sh_12 rfl _ _) rfl (q_X12_isFall (t := v3_4) ⟨by omega, by omega⟩  hI) gv_X12_258 hv_X12_isFall ⟨(Nat.le_of_ble_eq_true rfl), (Nat.le_of_ble_eq_true rfl)⟩ hl.1 rfl (Nat.le_of_ble_eq_true rfl) ⟨Nat.zero_le _, Nat.zero_le _⟩ dX12_fallsTo_11 (fun r2 N3 H locs hp w => ?_)
        obtain ⟨z4, rfl, bz4, hMN3⟩ := hp
        rw [hMN3] at w
        refine z_if_eq (tgt := 20) hx hb (by omega) dX12_fallsTo_14 (by decide) (fun c5 => ?_) (fun c5 => ?_)
        · refine z_iinc (v := (v3_4 + 1)) (lv' := [(3, .int (zI (v3_4 + 1))), (2, .int (zI v2_4)), (0, .ref (B + 146)), (1, .int (zI t))]) hx hb dX12_fallsTo_20 hl (k := 0) rfl (by omega) (by decide) rfl (fun ls hl => ?_)
          refine lv_goto (tgt := 4) hx hb dX12_fallsTo_23 (by decide) ?_
          exact ih4 (v3_4 + 1) v2_4 (by omega) (by omega)     (by omega) _ _ _ w (lv_sub hl [0, 1, 2, 3] rfl)
        · obtain ⟨z6, bz6, x0z6, ez6⟩ := add_ex v2_4 1
          refine lv_iinc (v := zI z6) (lv' := [(2, .int (zI z6)), (3, .int (zI v3_4)), (0, .ref (B + 146)), (1, .int (zI t))]) hx hb dX12_fallsTo_17 hl (k := 1) rfl (by first | exact ez6 | (rw [← ez6]; rfl)) (by decide) rfl (fun ls hl => ?_)
          refine z_iinc (v := (v3_4 + 1)) (lv' := [(3, .int (zI (v3_4 + 1))), (2, .int (zI z6)), (0, .ref (B + 146)), (1, .int (zI t))]) hx hb dX12_fallsTo_20 hl (k := 1) rfl (by omega) (by decide) rfl (fun ls hl => ?_)
          refine lv_goto (tgt := 4) hx hb dX12_fallsTo_23 (by decide) ?_
          exact ih4 (v3_4 + 1) z6 (by omega) (by omega)     (by omega) _ _ _ w (lv_sub hl [0, 1, 2, 3] rfl)
  exact lp4 _ 0 0 (by omega) (by omega) (Nat.lt_succ_self _) _ _ _ w (lv_sub hl [0, 1, 2, 3] rfl)
theorem dX12_lays_0 : decode cX12_lays 0 = .ok (.iload_n 1, 1) := dq0 kk_27 (by decide +kernel)
theorem dX12_lays_1 : decode cX12_lays 1 = .ok (.iconst 0, 1) := dq0 kk_3 (by decide +kernel)
theorem dX12_lays_2 : decode cX12_lays 2 = .ok (.aload_n 0, 1) := dq0 kk_42 (by decide +kernel)
theorem dX12_lays_3 : decode cX12_lays 3 = .ok (.getfield 239, 3) := dqV kk_180 (by decide +kernel)
theorem dX12_lays_6 : decode cX12_lays 6 = .ok (.invokestatic 55, 3) := dqV kk_184 (by decide +kernel)
theorem dX12_lays_9 : decode cX12_lays 9 = .ok (.ifCond .ne 5, 3) := dqT kk_154 (by decide +kernel)
theorem dX12_lays_14 : decode cX12_lays 14 = .ok (.aload_n 0, 1) := dq0 kk_42 (by decide +kernel)
theorem dX12_lays_15 : decode cX12_lays 15 = .ok (.iload_n 1, 1) := dq0 kk_27 (by decide +kernel)
theorem dX12_lays_16 : decode cX12_lays 16 = .ok (.invokevirtual 255, 3) := dqV kk_182 (by decide +kernel)
theorem tk_X12_derives : Cond.code yX12_derives cX12_derives 4 (some .int) ∈ TB := wtk_X12_derives
theorem gc_X12_derives : GoodIn TB (cw yX12_derives cX12_derives 4 (some .int)) := goodIn_c2 tk_X12_derives
theorem tb_608 : Cond.methodLink "ToneLinesModel" 255 yX12_derives ∈ TB := wtb_298
theorem tb_609 : Cond.instanceMethod yX12_derives ∈ TB := wtb_299
theorem tb_610 : Cond.selects "ToneLinesModel" yX12_derives yX12_derives ∈ TB := wtb_300
theorem gv_X12_255 : GoodIn TB (wsV RX12 255 RX12 yX12_derives (cw yX12_derives cX12_derives 4 (some .int))) := goodIn_4 tb_608 tb_609 tb_610 tb_38 gc_X12_derives
theorem hv_X12_derives : yX12_derives.cls = RX12 ∧ yX12_derives.cls ≠ "java/lang/invoke/MethodHandle" ∧ yX12_derives.cls ≠ "java/lang/invoke/VarHandle" ∧ (parseMethodDescriptor yX12_derives.desc).map (fun d => d.parameters.length) = some 1 := whv_X12_derives
theorem dX12_lays_19 : decode cX12_lays 19 = .ok (.pop, 1) := dq0 kk_87 (by decide +kernel)
theorem dX12_lays_20 : decode cX12_lays 20 = .ok (.iconst 1, 1) := dq0 kk_4 (by decide +kernel)
theorem dX12_lays_21 : decode cX12_lays 21 = .ok (.ireturn, 1) := dq0 kk_172 (by decide +kernel)
theorem dX12_lays_12 : decode cX12_lays 12 = .ok (.iconst 0, 1) := dq0 kk_3 (by decide +kernel)
theorem dX12_lays_13 : decode cX12_lays 13 = .ok (.ireturn, 1) := dq0 kk_172 (by decide +kernel)
set_option maxRecDepth 4000 in
theorem q_X12_lays {l : Launch} {D : va_G} {B : Nat} {cy : Nat → ClassId} {M : Mem} {x : Int} (hx : (-2147483648) ≤ x ∧ x ≤ 2147483647) (hI : IvR M) : Ci l D B cy yX12_lays cX12_lays 2 (some .boolean) 9 212 [.ref (B + 146), .int (zI x)] M (fun r M1 => ∃ z : Int, r = zI z ∧ (0 ≤ z ∧ z ≤ 1) ∧ IvR M1 ∧ Fr (fun b9 k9 => (b9 = 146 ∧ k9 = 3) ∨ (b9 = 146 ∧ k9 = 6) ∨ b9 = 148) M1 M) := by
  refine s_anyQ (by decide) (Nat.le_of_ble_eq_true rfl) ?_
  intro p e s m args below meth c ls Q F hr hlocks hQ w hl
  have F : CallFix p m c cX12_lays 2 s args TB RX12 := F
  have hx := F.1
  have hb := F.2.1
  have hl : lv_has ls 2 [(0, .ref (B + 146)), (1, .int (zI x))] := hl
  have hF : Fr (fun b9 k9 => (b9 = 146 ∧ k9 = 3) ∨ (b9 = 146 ∧ k9 = 6) ∨ b9 = 148) M M := Fr.rf
  refine lv_iload_n hx hb dX12_lays_0 rfl (lv_at hl 1 rfl) ?_
  refine lv_iconst (v := zI 0) hx hb dX12_lays_1 rfl ?_
  refine lv_aload_n hx hb dX12_lays_2 rfl (lv_at hl 0 rfl) ?_
  refine f_12_5 F w (a := 146) rfl tb_604 dX12_lays_3 ?_
  obtain ⟨z1, bz1, ez1⟩ := IvR.ld (k := 5) hI (show ivr 146 5 = (0, 8) from rfl) (show 146 ≤ 146 ∧ 146 < 159 by decide)
  refine r_val ez1 ?_
  refine k_Si F w (As := [.int (zI x), .int (zI 0), .int (zI z1)]) (rest := []) (q_X12_in (x := x) ⟨by omega, by omega⟩ (x1 := 0) ⟨by omega, by omega⟩ (x2 := z1) ⟨by omega, by omega⟩  hI) gs_X12_55 hs_X12_in ⟨(Nat.le_of_ble_eq_true rfl), (Nat.le_of_ble_eq_true rfl)⟩ hl.1 rfl (Nat.le_of_ble_eq_true rfl) ⟨Nat.zero_le _, Nat.zero_le _⟩ dX12_lays_6 (fun r2 N3 H locs hp w => ?_)
  obtain ⟨z4, rfl, bz4, xz4, hMN3⟩ := hp
  rw [hMN3] at w
  refine z_if_ne (tgt := 14) hx hb (by omega) dX12_lays_9 (by decide) (fun c5 => ?_) (fun c5 => ?_)
  · refine lv_aload_n hx hb dX12_lays_14 rfl (lv_at hl 0 rfl) ?_
    refine lv_iload_n hx hb dX12_lays_15 rfl (lv_at hl 1 rfl) ?_
    refine k_Vi F w (As := [.int (zI x)]) (rest := []) (a := 146) (kd_lt (a := 146) (show kd 146 = (12, 0, 0) from rfl) (by decide)) (sh_12 rfl _ _) rfl (q_X12_derives (x := x) ⟨by omega, by omega⟩  hI) gv_X12_255 hv_X12_derives ⟨(Nat.le_of_ble_eq_true rfl), (Nat.le_of_ble_eq_true rfl)⟩ hl.1 rfl (Nat.le_of_ble_eq_true rfl) ⟨Nat.zero_le _, Nat.zero_le _⟩ dX12_lays_16 (fun r6 N7 H locs hp w => ?_)
    obtain ⟨z8, rfl, bz8, hIN7, hFN7⟩ := hp
    have hGN7 := Fr.tr hF hFN7 (S := (fun b9 k9 => (b9 = 146 ∧ k9 = 3) ∨ (b9 = 146 ∧ k9 = 6) ∨ b9 = 148)) (fun b k h => by (try dsimp only at h ⊢); rcases h with ⟨rfl, rfl⟩ | ⟨rfl, rfl⟩ | rfl <;> first | decide | omega)
    have kn9 : N7.1 146 5 = zI z1 := (hFN7 146 5 (by first | decide | (dsimp only; first | done | decide | omega) | omega)).trans (ez1)
    refine lv_pop hx hb dX12_lays_19 rfl ?_
    refine lv_iconst (v := zI 1) hx hb dX12_lays_20 rfl ?_
    rw [hQ]
    exact e_z F w hr hlocks (nar_z (by omega)) ⟨_, rfl, ⟨by omega, by omega⟩, hIN7, hGN7⟩ dX12_lays_21
  · refine lv_iconst (v := zI 0) hx hb dX12_lays_12 rfl ?_
    rw [hQ]
    exact e_z F w hr hlocks (nar_z (by omega)) ⟨_, rfl, ⟨by omega, by omega⟩, hI, hF⟩ dX12_lays_13
theorem dX12_lines_0 : decode cX12_lines 0 = .ok (.iconst 0, 1) := dq0 kk_3 (by decide +kernel)
theorem dX12_lines_1 : decode cX12_lines 1 = .ok (.istore_n 1, 1) := dq0 kk_60 (by decide +kernel)
theorem dX12_lines_2 : decode cX12_lines 2 = .ok (.iconst 0, 1) := dq0 kk_3 (by decide +kernel)
theorem dX12_lines_3 : decode cX12_lines 3 = .ok (.istore_n 2, 1) := dq0 kk_61 (by decide +kernel)
theorem dX12_lines_4 : decode cX12_lines 4 = .ok (.iload_n 2, 1) := dq0 kk_28 (by decide +kernel)
theorem dX12_lines_5 : decode cX12_lines 5 = .ok (.aload_n 0, 1) := dq0 kk_42 (by decide +kernel)
theorem dX12_lines_6 : decode cX12_lines 6 = .ok (.getfield 17, 3) := dqV kk_180 (by decide +kernel)
theorem dX12_lines_9 : decode cX12_lines 9 = .ok (.iconst 0, 1) := dq0 kk_3 (by decide +kernel)
theorem dX12_lines_10 : decode cX12_lines 10 = .ok (.iaload, 1) := dq0 kk_46 (by decide +kernel)
theorem dX12_lines_11 : decode cX12_lines 11 = .ok (.if_icmp .ge 24, 3) := dqT kk_162 (by decide +kernel)
theorem dX12_lines_35 : decode cX12_lines 35 = .ok (.iload_n 1, 1) := dq0 kk_27 (by decide +kernel)
theorem dX12_lines_36 : decode cX12_lines 36 = .ok (.ireturn, 1) := dq0 kk_172 (by decide +kernel)
theorem dX12_lines_14 : decode cX12_lines 14 = .ok (.iload_n 1, 1) := dq0 kk_27 (by decide +kernel)
theorem dX12_lines_15 : decode cX12_lines 15 = .ok (.aload_n 0, 1) := dq0 kk_42 (by decide +kernel)
theorem dX12_lines_16 : decode cX12_lines 16 = .ok (.getfield 17, 3) := dqV kk_180 (by decide +kernel)
theorem dX12_lines_19 : decode cX12_lines 19 = .ok (.bipush 13, 2) := dqS kk_16 (by decide +kernel)
theorem dX12_lines_21 : decode cX12_lines 21 = .ok (.iload_n 2, 1) := dq0 kk_28 (by decide +kernel)
theorem dX12_lines_22 : decode cX12_lines 22 = .ok (.iadd, 1) := dq0 kk_96 (by decide +kernel)
theorem dX12_lines_23 : decode cX12_lines 23 = .ok (.iaload, 1) := dq0 kk_46 (by decide +kernel)
theorem dX12_lines_24 : decode cX12_lines 24 = .ok (.invokestatic 76, 3) := dqV kk_184 (by decide +kernel)
theorem dX12_lines_27 : decode cX12_lines 27 = .ok (.iadd, 1) := dq0 kk_96 (by decide +kernel)
theorem dX12_lines_28 : decode cX12_lines 28 = .ok (.istore_n 1, 1) := dq0 kk_60 (by decide +kernel)
theorem dX12_lines_29 : decode cX12_lines 29 = .ok (.iinc 2 1, 3) := dqI kk_132 (by decide +kernel)
theorem dX12_lines_32 : decode cX12_lines 32 = .ok (.goto (-28), 3) := dqT kk_167 (by decide +kernel)
set_option maxRecDepth 4000 in
theorem q_X12_lines {l : Launch} {D : va_G} {B : Nat} {cy : Nat → ClassId} {M : Mem}  (hI : IvR M) : Ci l D B cy yX12_lines cX12_lines 3 (some .int) 1 22 [.ref (B + 146)] M (fun r M1 => ∃ z : Int, r = zI z ∧ ((-2147483648) ≤ z ∧ z ≤ 2147483647) ∧ M1 = M) := by
  refine s_anyQ (by decide) (Nat.le_of_ble_eq_true rfl) ?_
  intro p e s m args below meth c ls Q F hr hlocks hQ w hl
  have F : CallFix p m c cX12_lines 3 s args TB RX12 := F
  have hx := F.1
  have hb := F.2.1
  have hl : lv_has ls 3 [(0, .ref (B + 146))] := hl
  refine lv_iconst (v := zI 0) hx hb dX12_lines_0 rfl ?_
  refine lv_istore_n (lv' := [(1, .int (zI 0)), (0, .ref (B + 146))]) hx hb dX12_lines_1 rfl hl (by decide) rfl (fun ls hl => ?_)
  refine lv_iconst (v := zI 0) hx hb dX12_lines_2 rfl ?_
  refine lv_istore_n (lv' := [(2, .int (zI 0)), (1, .int (zI 0)), (0, .ref (B + 146))]) hx hb dX12_lines_3 rfl hl (by decide) rfl (fun ls hl => ?_)
  have lp4 : ∀ (f : Nat) (v2_4 : Int) (v1_4 : Int), (0 ≤ v2_4 ∧ v2_4 ≤ 12) → ((-2147483648) ≤ v1_4 ∧ v1_4 ≤ 2147483647) → (Int.toNat (12 - v2_4) < f) → ∀ (H : Heap) (locs : List Loc) (ls : Array Slot), Wd D B cy s s.heap M H locs → lv_has ls 3 [(2, .int (zI v2_4)), (1, .int (zI v1_4)), (0, .ref (B + 146))] → W p l e (rmm 1 22) s m args below meth c H locs 0 0 Q (F0 m 4 ls []) := by
    intro f
    induction f with
    | zero => intros; omega
    | succ f ih4 =>
      intro v2_4 v1_4  iv2_4 iv1_4 hf4 H locs ls w hl
      refine lv_iload_n hx hb dX12_lines_4 rfl (lv_at hl 0 rfl) ?_
      refine lv_aload_n hx hb dX12_lines_5 rfl (lv_at hl 2 rfl) ?_
      refine f_12_2 F w (a := 146) rfl tb_45 dX12_lines_6 ?_
      refine lv_iconst (v := zI 0) hx hb dX12_lines_9 rfl ?_
      refine g_iald F w (a := 148) rfl (j := 0) ⟨by decide, by decide⟩ (by omega) dX12_lines_10 ?_
      obtain ⟨z1, bz1, ez1⟩ := IvR.ld (k := 0) hI (show ivr 148 0 = (0, 12) from rfl) (show 146 ≤ 148 ∧ 148 < 159 by decide)
      refine r_val ez1 ?_
      refine z_icmp_ge (tgt := 35) hx hb (by omega) (by omega) dX12_lines_11 (by decide) (fun c2 => ?_) (fun c2 => ?_)
      · refine lv_iload_n hx hb dX12_lines_35 rfl (lv_at hl 1 rfl) ?_
        rw [hQ]
        exact e_i F w hr hlocks ⟨_, rfl, ⟨by omega, by omega⟩, rfl⟩ dX12_lines_36
      · refine lv_iload_n hx hb dX12_lines_14 rfl (lv_at hl 1 rfl) ?_
        refine lv_aload_n hx hb dX12_lines_15 rfl (lv_at hl 2 rfl) ?_
        refine f_12_2 F w (a := 146) rfl tb_45 dX12_lines_16 ?_
        refine lv_bipush (v := zI 13) hx hb dX12_lines_19 (by decide) ?_
        refine lv_iload_n hx hb dX12_lines_21 rfl (lv_at hl 0 rfl) ?_
        refine z_iadd (z := (v2_4 + 13)) hx hb dX12_lines_22 (by omega) ?_
        refine g_iald F w (a := 148) rfl (j := (13 + Int.toNat v2_4)) (ix_l (t := v2_4) (by omega) (by omega)) (by omega) dX12_lines_23 ?_
        obtain ⟨z3, bz3, ez3⟩ := IvR.ld (k := (13 + Int.toNat v2_4)) hI (wiv_l (a := 148) (k := (13 + Int.toNat v2_4)) (by omega) (by omega)) (show 146 ≤ 148 ∧ 148 < 159 by decide)
        refine r_val ez3 ?_
        refine k_Si F w (As := [.int (zI z3)]) (rest := [.int (zI v1_4)]) (q_bitsOf (x := z3) ⟨by omega, by omega⟩ ) gs_X12_76 hs_X12_bitsOf ⟨(Nat.le_of_ble_eq_true rfl), (Nat.le_of_ble_eq_true rfl)⟩ hl.1 rfl (Nat.le_of_ble_eq_true rfl) ⟨Nat.zero_le _, Nat.zero_le _⟩ dX12_lines_24 (fun r4 N5 H locs hp w => ?_)
        obtain ⟨hrz6, hMz6⟩ := hp
        rw [hMz6] at w
        obtain ⟨z6, bz6, xz6, ez6⟩ := pop2_ex z3 (by omega)
        refine r_val (hrz6.trans ez6) ?_
        obtain ⟨z7, bz7, x0z7, ez7⟩ := add_ex v1_4 z6
        refine lv_iadd hx hb dX12_lines_27 ?_
        refine r_val ez7 ?_
        refine lv_istore_n (lv' := [(1, .int (zI z7)), (2, .int (zI v2_4)), (0, .ref (B + 146))]) hx hb dX12_lines_28 rfl hl (by decide) rfl (fun ls hl => ?_)
        refine z_iinc (v := (v2_4 + 1)) (lv' := [(2, .int (zI (v2_4 + 1))), (1, .int (zI z7)), (0, .ref (B + 146))]) hx hb dX12_lines_29 hl (k := 1) rfl (by omega) (by decide) rfl (fun ls hl => ?_)
        refine lv_goto (tgt := 4) hx hb dX12_lines_32 (by decide) ?_
        exact ih4 (v2_4 + 1) z7 (by omega) (by omega)     (by omega) _ _ _ w (lv_sub hl [0, 1, 2] rfl)
  exact lp4 _ 0 0 (by omega) (by omega) (Nat.lt_succ_self _) _ _ _ w (lv_sub hl [0, 1, 2] rfl)
theorem dX12_floating_0 : decode cX12_floating 0 = .ok (.iconst 0, 1) := dq0 kk_3 (by decide +kernel)
theorem dX12_floating_1 : decode cX12_floating 1 = .ok (.istore_n 1, 1) := dq0 kk_60 (by decide +kernel)
theorem dX12_floating_2 : decode cX12_floating 2 = .ok (.iconst 0, 1) := dq0 kk_3 (by decide +kernel)
theorem dX12_floating_3 : decode cX12_floating 3 = .ok (.istore_n 2, 1) := dq0 kk_61 (by decide +kernel)
theorem dX12_floating_4 : decode cX12_floating 4 = .ok (.iload_n 2, 1) := dq0 kk_28 (by decide +kernel)
theorem dX12_floating_5 : decode cX12_floating 5 = .ok (.aload_n 0, 1) := dq0 kk_42 (by decide +kernel)
theorem dX12_floating_6 : decode cX12_floating 6 = .ok (.getfield 17, 3) := dqV kk_180 (by decide +kernel)
theorem dX12_floating_9 : decode cX12_floating 9 = .ok (.iconst 0, 1) := dq0 kk_3 (by decide +kernel)
theorem dX12_floating_10 : decode cX12_floating 10 = .ok (.iaload, 1) := dq0 kk_46 (by decide +kernel)
theorem dX12_floating_11 : decode cX12_floating 11 = .ok (.if_icmp .ge 27, 3) := dqT kk_162 (by decide +kernel)
theorem dX12_floating_38 : decode cX12_floating 38 = .ok (.iload_n 1, 1) := dq0 kk_27 (by decide +kernel)
theorem dX12_floating_39 : decode cX12_floating 39 = .ok (.ireturn, 1) := dq0 kk_172 (by decide +kernel)
theorem dX12_floating_14 : decode cX12_floating 14 = .ok (.aload_n 0, 1) := dq0 kk_42 (by decide +kernel)
theorem dX12_floating_15 : decode cX12_floating 15 = .ok (.getfield 17, 3) := dqV kk_180 (by decide +kernel)
theorem dX12_floating_18 : decode cX12_floating 18 = .ok (.bipush 13, 2) := dqS kk_16 (by decide +kernel)
theorem dX12_floating_20 : decode cX12_floating 20 = .ok (.iload_n 2, 1) := dq0 kk_28 (by decide +kernel)
theorem dX12_floating_21 : decode cX12_floating 21 = .ok (.iadd, 1) := dq0 kk_96 (by decide +kernel)
theorem dX12_floating_22 : decode cX12_floating 22 = .ok (.iaload, 1) := dq0 kk_46 (by decide +kernel)
theorem dX12_floating_23 : decode cX12_floating 23 = .ok (.ifCond .ne 9, 3) := dqT kk_154 (by decide +kernel)
theorem dX12_floating_32 : decode cX12_floating 32 = .ok (.iinc 2 1, 3) := dqI kk_132 (by decide +kernel)
theorem dX12_floating_35 : decode cX12_floating 35 = .ok (.goto (-31), 3) := dqT kk_167 (by decide +kernel)
theorem dX12_floating_26 : decode cX12_floating 26 = .ok (.iload_n 1, 1) := dq0 kk_27 (by decide +kernel)
theorem dX12_floating_27 : decode cX12_floating 27 = .ok (.iconst 1, 1) := dq0 kk_4 (by decide +kernel)
theorem dX12_floating_28 : decode cX12_floating 28 = .ok (.iload_n 2, 1) := dq0 kk_28 (by decide +kernel)
theorem dX12_floating_29 : decode cX12_floating 29 = .ok (.ishl, 1) := dq0 kk_120 (by decide +kernel)
theorem dX12_floating_30 : decode cX12_floating 30 = .ok (.ior, 1) := dq0 kk_128 (by decide +kernel)
theorem dX12_floating_31 : decode cX12_floating 31 = .ok (.istore_n 1, 1) := dq0 kk_60 (by decide +kernel)
set_option maxRecDepth 4000 in
theorem q_X12_floating {l : Launch} {D : va_G} {B : Nat} {cy : Nat → ClassId} {M : Mem}  (hI : IvR M) : Ci l D B cy yX12_floating cX12_floating 3 (some .int) 0 0 [.ref (B + 146)] M (fun r M1 => ∃ z : Int, r = zI z ∧ (0 ≤ z ∧ z ≤ 4095) ∧ M1 = M) := by
  refine s_anyQ (by decide) (Nat.le_of_ble_eq_true rfl) ?_
  intro p e s m args below meth c ls Q F hr hlocks hQ w hl
  have F : CallFix p m c cX12_floating 3 s args TB RX12 := F
  have hx := F.1
  have hb := F.2.1
  have hl : lv_has ls 3 [(0, .ref (B + 146))] := hl
  refine lv_iconst (v := zI 0) hx hb dX12_floating_0 rfl ?_
  refine lv_istore_n (lv' := [(1, .int (zI 0)), (0, .ref (B + 146))]) hx hb dX12_floating_1 rfl hl (by decide) rfl (fun ls hl => ?_)
  refine lv_iconst (v := zI 0) hx hb dX12_floating_2 rfl ?_
  refine lv_istore_n (lv' := [(2, .int (zI 0)), (1, .int (zI 0)), (0, .ref (B + 146))]) hx hb dX12_floating_3 rfl hl (by decide) rfl (fun ls hl => ?_)
  have lp4 : ∀ (f : Nat) (v2_4 : Int) (v1_4 : Int), (0 ≤ v2_4 ∧ v2_4 ≤ 12) → (0 ≤ v1_4 ∧ v1_4 ≤ 4095) → (Int.toNat (12 - v2_4) < f) → ∀ (H : Heap) (locs : List Loc) (ls : Array Slot), Wd D B cy s s.heap M H locs → lv_has ls 3 [(2, .int (zI v2_4)), (1, .int (zI v1_4)), (0, .ref (B + 146))] → W p l e (rmm 0 0) s m args below meth c H locs 0 0 Q (F0 m 4 ls []) := by
    intro f
    induction f with
    | zero => intros; omega
    | succ f ih4 =>
      intro v2_4 v1_4  iv2_4 iv1_4 hf4 H locs ls w hl
      refine lv_iload_n hx hb dX12_floating_4 rfl (lv_at hl 0 rfl) ?_
      refine lv_aload_n hx hb dX12_floating_5 rfl (lv_at hl 2 rfl) ?_
      refine f_12_2 F w (a := 146) rfl tb_45 dX12_floating_6 ?_
      refine lv_iconst (v := zI 0) hx hb dX12_floating_9 rfl ?_
      refine g_iald F w (a := 148) rfl (j := 0) ⟨by decide, by decide⟩ (by omega) dX12_floating_10 ?_
      obtain ⟨z1, bz1, ez1⟩ := IvR.ld (k := 0) hI (show ivr 148 0 = (0, 12) from rfl) (show 146 ≤ 148 ∧ 148 < 159 by decide)
      refine r_val ez1 ?_
      refine z_icmp_ge (tgt := 38) hx hb (by omega) (by omega) dX12_floating_11 (by decide) (fun c2 => ?_) (fun c2 => ?_)
      · refine lv_iload_n hx hb dX12_floating_38 rfl (lv_at hl 1 rfl) ?_
        rw [hQ]
        exact e_i F w hr hlocks ⟨_, rfl, ⟨by omega, by omega⟩, rfl⟩ dX12_floating_39
      · refine lv_aload_n hx hb dX12_floating_14 rfl (lv_at hl 2 rfl) ?_
        refine f_12_2 F w (a := 146) rfl tb_45 dX12_floating_15 ?_
        refine lv_bipush (v := zI 13) hx hb dX12_floating_18 (by decide) ?_
        refine lv_iload_n hx hb dX12_floating_20 rfl (lv_at hl 0 rfl) ?_
        refine z_iadd (z := (v2_4 + 13)) hx hb dX12_floating_21 (by omega) ?_
        refine g_iald F w (a := 148) rfl (j := (13 + Int.toNat v2_4)) (ix_l (t := v2_4) (by omega) (by omega)) (by omega) dX12_floating_22 ?_
        obtain ⟨z3, bz3, ez3⟩ := IvR.ld (k := (13 + Int.toNat v2_4)) hI (wiv_l (a := 148) (k := (13 + Int.toNat v2_4)) (by omega) (by omega)) (show 146 ≤ 148 ∧ 148 < 159 by decide)
        refine r_val ez3 ?_
        refine z_if_ne (tgt := 32) hx hb (by omega) dX12_floating_23 (by decide) (fun c4 => ?_) (fun c4 => ?_)
        · refine z_iinc (v := (v2_4 + 1)) (lv' := [(2, .int (zI (v2_4 + 1))), (1, .int (zI v1_4)), (0, .ref (B + 146))]) hx hb dX12_floating_32 hl (k := 0) rfl (by omega) (by decide) rfl (fun ls hl => ?_)
          refine lv_goto (tgt := 4) hx hb dX12_floating_35 (by decide) ?_
          exact ih4 (v2_4 + 1) v1_4 (by omega) (by omega)     (by omega) _ _ _ w (lv_sub hl [0, 1, 2] rfl)
        · refine lv_iload_n hx hb dX12_floating_26 rfl (lv_at hl 1 rfl) ?_
          refine lv_iconst (v := zI 1) hx hb dX12_floating_27 rfl ?_
          refine lv_iload_n hx hb dX12_floating_28 rfl (lv_at hl 0 rfl) ?_
          obtain ⟨z5, bz5, x0z5, ez5⟩ := shl_ex 1 v2_4
          refine lv_ishl hx hb dX12_floating_29 ?_
          refine r_val ez5 ?_
          obtain ⟨z6, bz6, x0z6, ez6⟩ := or_ex v1_4 z5
          refine lv_ior hx hb dX12_floating_30 ?_
          refine r_val ez6 ?_
          refine lv_istore_n (lv' := [(1, .int (zI z6)), (2, .int (zI v2_4)), (0, .ref (B + 146))]) hx hb dX12_floating_31 rfl hl (by decide) rfl (fun ls hl => ?_)
          refine z_iinc (v := (v2_4 + 1)) (lv' := [(2, .int (zI (v2_4 + 1))), (1, .int (zI z6)), (0, .ref (B + 146))]) hx hb dX12_floating_32 hl (k := 1) rfl (by omega) (by decide) rfl (fun ls hl => ?_)
          refine lv_goto (tgt := 4) hx hb dX12_floating_35 (by decide) ?_
          exact ih4 (v2_4 + 1) z6 (by omega) (by omega)     (by omega) _ _ _ w (lv_sub hl [0, 1, 2] rfl)
  exact lp4 _ 0 0 (by omega) (by omega) (Nat.lt_succ_self _) _ _ _ w (lv_sub hl [0, 1, 2] rfl)
theorem dX12_bare_0 : decode cX12_bare 0 = .ok (.iconst 0, 1) := dq0 kk_3 (by decide +kernel)
theorem dX12_bare_1 : decode cX12_bare 1 = .ok (.istore_n 1, 1) := dq0 kk_60 (by decide +kernel)
theorem dX12_bare_2 : decode cX12_bare 2 = .ok (.iconst 0, 1) := dq0 kk_3 (by decide +kernel)
theorem dX12_bare_3 : decode cX12_bare 3 = .ok (.istore_n 2, 1) := dq0 kk_61 (by decide +kernel)
theorem dX12_bare_4 : decode cX12_bare 4 = .ok (.iload_n 2, 1) := dq0 kk_28 (by decide +kernel)
theorem dX12_bare_5 : decode cX12_bare 5 = .ok (.aload_n 0, 1) := dq0 kk_42 (by decide +kernel)
theorem dX12_bare_6 : decode cX12_bare 6 = .ok (.getfield 17, 3) := dqV kk_180 (by decide +kernel)
theorem dX12_bare_9 : decode cX12_bare 9 = .ok (.bipush 25, 2) := dqS kk_16 (by decide +kernel)
theorem dX12_bare_11 : decode cX12_bare 11 = .ok (.iaload, 1) := dq0 kk_46 (by decide +kernel)
theorem dX12_bare_12 : decode cX12_bare 12 = .ok (.if_icmp .ge 23, 3) := dqT kk_162 (by decide +kernel)
theorem dX12_bare_35 : decode cX12_bare 35 = .ok (.iload_n 1, 1) := dq0 kk_27 (by decide +kernel)
theorem dX12_bare_36 : decode cX12_bare 36 = .ok (.ireturn, 1) := dq0 kk_172 (by decide +kernel)
theorem dX12_bare_15 : decode cX12_bare 15 = .ok (.aload_n 0, 1) := dq0 kk_42 (by decide +kernel)
theorem dX12_bare_16 : decode cX12_bare 16 = .ok (.iload_n 2, 1) := dq0 kk_28 (by decide +kernel)
theorem dX12_bare_17 : decode cX12_bare 17 = .ok (.invokevirtual 82, 3) := dqV kk_182 (by decide +kernel)
theorem dX12_bare_20 : decode cX12_bare 20 = .ok (.ifCond .eq 9, 3) := dqT kk_153 (by decide +kernel)
theorem dX12_bare_29 : decode cX12_bare 29 = .ok (.iinc 2 1, 3) := dqI kk_132 (by decide +kernel)
theorem dX12_bare_32 : decode cX12_bare 32 = .ok (.goto (-28), 3) := dqT kk_167 (by decide +kernel)
theorem dX12_bare_23 : decode cX12_bare 23 = .ok (.iload_n 1, 1) := dq0 kk_27 (by decide +kernel)
theorem dX12_bare_24 : decode cX12_bare 24 = .ok (.iconst 1, 1) := dq0 kk_4 (by decide +kernel)
theorem dX12_bare_25 : decode cX12_bare 25 = .ok (.iload_n 2, 1) := dq0 kk_28 (by decide +kernel)
theorem dX12_bare_26 : decode cX12_bare 26 = .ok (.ishl, 1) := dq0 kk_120 (by decide +kernel)
theorem dX12_bare_27 : decode cX12_bare 27 = .ok (.ior, 1) := dq0 kk_128 (by decide +kernel)
theorem dX12_bare_28 : decode cX12_bare 28 = .ok (.istore_n 1, 1) := dq0 kk_60 (by decide +kernel)
set_option maxRecDepth 4000 in
theorem q_X12_bare {l : Launch} {D : va_G} {B : Nat} {cy : Nat → ClassId} {M : Mem}  (hI : IvR M) : Ci l D B cy yX12_bare cX12_bare 3 (some .int) 3 65 [.ref (B + 146)] M (fun r M1 => ∃ z : Int, r = zI z ∧ (0 ≤ z ∧ z ≤ 4095) ∧ M1 = M) := by
  refine s_anyQ (by decide) (Nat.le_of_ble_eq_true rfl) ?_
  intro p e s m args below meth c ls Q F hr hlocks hQ w hl
  have F : CallFix p m c cX12_bare 3 s args TB RX12 := F
  have hx := F.1
  have hb := F.2.1
  have hl : lv_has ls 3 [(0, .ref (B + 146))] := hl
  refine lv_iconst (v := zI 0) hx hb dX12_bare_0 rfl ?_
  refine lv_istore_n (lv' := [(1, .int (zI 0)), (0, .ref (B + 146))]) hx hb dX12_bare_1 rfl hl (by decide) rfl (fun ls hl => ?_)
  refine lv_iconst (v := zI 0) hx hb dX12_bare_2 rfl ?_
  refine lv_istore_n (lv' := [(2, .int (zI 0)), (1, .int (zI 0)), (0, .ref (B + 146))]) hx hb dX12_bare_3 rfl hl (by decide) rfl (fun ls hl => ?_)
  have lp4 : ∀ (f : Nat) (v2_4 : Int) (v1_4 : Int), (0 ≤ v2_4 ∧ v2_4 ≤ 12) → (0 ≤ v1_4 ∧ v1_4 ≤ 4095) → (Int.toNat (12 - v2_4) < f) → ∀ (H : Heap) (locs : List Loc) (ls : Array Slot), Wd D B cy s s.heap M H locs → lv_has ls 3 [(2, .int (zI v2_4)), (1, .int (zI v1_4)), (0, .ref (B + 146))] → W p l e (rmm 3 65) s m args below meth c H locs 0 0 Q (F0 m 4 ls []) := by
    intro f
    induction f with
    | zero => intros; omega
    | succ f ih4 =>
      intro v2_4 v1_4  iv2_4 iv1_4 hf4 H locs ls w hl
      refine lv_iload_n hx hb dX12_bare_4 rfl (lv_at hl 0 rfl) ?_
      refine lv_aload_n hx hb dX12_bare_5 rfl (lv_at hl 2 rfl) ?_
      refine f_12_2 F w (a := 146) rfl tb_45 dX12_bare_6 ?_
      refine lv_bipush (v := zI 25) hx hb dX12_bare_9 (by decide) ?_
      refine g_iald F w (a := 148) rfl (j := 25) ⟨by decide, by decide⟩ (by omega) dX12_bare_11 ?_
      obtain ⟨z1, bz1, ez1⟩ := IvR.ld (k := 25) hI (show ivr 148 25 = (0, 12) from rfl) (show 146 ≤ 148 ∧ 148 < 159 by decide)
      refine r_val ez1 ?_
      refine z_icmp_ge (tgt := 35) hx hb (by omega) (by omega) dX12_bare_12 (by decide) (fun c2 => ?_) (fun c2 => ?_)
      · refine lv_iload_n hx hb dX12_bare_35 rfl (lv_at hl 1 rfl) ?_
        rw [hQ]
        exact e_i F w hr hlocks ⟨_, rfl, ⟨by omega, by omega⟩, rfl⟩ dX12_bare_36
      · refine lv_aload_n hx hb dX12_bare_15 rfl (lv_at hl 2 rfl) ?_
        refine lv_iload_n hx hb dX12_bare_16 rfl (lv_at hl 0 rfl) ?_
        refine k_Vi F w (As := [.int (zI v2_4)]) (rest := []) (a := 146) (kd_lt (a := 146) (show kd 146 = (12, 0, 0) from rfl) (by decide)) (sh_12 rfl _ _) rfl (q_X12_isBare (y := v2_4) ⟨by omega, by omega⟩  hI) gv_X12_82 hv_X12_isBare ⟨(Nat.le_of_ble_eq_true rfl), (Nat.le_of_ble_eq_true rfl)⟩ hl.1 rfl (Nat.le_of_ble_eq_true rfl) ⟨Nat.zero_le _, Nat.zero_le _⟩ dX12_bare_17 (fun r3 N4 H locs hp w => ?_)
        obtain ⟨z5, rfl, bz5, hMN4⟩ := hp
        rw [hMN4] at w
        refine z_if_eq (tgt := 29) hx hb (by omega) dX12_bare_20 (by decide) (fun c6 => ?_) (fun c6 => ?_)
        · refine z_iinc (v := (v2_4 + 1)) (lv' := [(2, .int (zI (v2_4 + 1))), (1, .int (zI v1_4)), (0, .ref (B + 146))]) hx hb dX12_bare_29 hl (k := 0) rfl (by omega) (by decide) rfl (fun ls hl => ?_)
          refine lv_goto (tgt := 4) hx hb dX12_bare_32 (by decide) ?_
          exact ih4 (v2_4 + 1) v1_4 (by omega) (by omega)     (by omega) _ _ _ w (lv_sub hl [0, 1, 2] rfl)
        · refine lv_iload_n hx hb dX12_bare_23 rfl (lv_at hl 1 rfl) ?_
          refine lv_iconst (v := zI 1) hx hb dX12_bare_24 rfl ?_
          refine lv_iload_n hx hb dX12_bare_25 rfl (lv_at hl 0 rfl) ?_
          obtain ⟨z7, bz7, x0z7, ez7⟩ := shl_ex 1 v2_4
          refine lv_ishl hx hb dX12_bare_26 ?_
          refine r_val ez7 ?_
          obtain ⟨z8, bz8, x0z8, ez8⟩ := or_ex v1_4 z7
          refine lv_ior hx hb dX12_bare_27 ?_
          refine r_val ez8 ?_
          refine lv_istore_n (lv' := [(1, .int (zI z8)), (2, .int (zI v2_4)), (0, .ref (B + 146))]) hx hb dX12_bare_28 rfl hl (by decide) rfl (fun ls hl => ?_)
          refine z_iinc (v := (v2_4 + 1)) (lv' := [(2, .int (zI (v2_4 + 1))), (1, .int (zI z8)), (0, .ref (B + 146))]) hx hb dX12_bare_29 hl (k := 1) rfl (by omega) (by decide) rfl (fun ls hl => ?_)
          refine lv_goto (tgt := 4) hx hb dX12_bare_32 (by decide) ?_
          exact ih4 (v2_4 + 1) z8 (by omega) (by omega)     (by omega) _ _ _ w (lv_sub hl [0, 1, 2] rfl)
  exact lp4 _ 0 0 (by omega) (by omega) (Nat.lt_succ_self _) _ _ _ w (lv_sub hl [0, 1, 2] rfl)
theorem dX12_mostTones_0 : decode cX12_mostTones 0 = .ok (.iconst 0, 1) := dq0 kk_3 (by decide +kernel)
theorem dX12_mostTones_1 : decode cX12_mostTones 1 = .ok (.istore_n 1, 1) := dq0 kk_60 (by decide +kernel)
theorem dX12_mostTones_2 : decode cX12_mostTones 2 = .ok (.iconst 0, 1) := dq0 kk_3 (by decide +kernel)
theorem dX12_mostTones_3 : decode cX12_mostTones 3 = .ok (.istore_n 2, 1) := dq0 kk_61 (by decide +kernel)
theorem dX12_mostTones_4 : decode cX12_mostTones 4 = .ok (.iload_n 2, 1) := dq0 kk_28 (by decide +kernel)
theorem dX12_mostTones_5 : decode cX12_mostTones 5 = .ok (.aload_n 0, 1) := dq0 kk_42 (by decide +kernel)
theorem dX12_mostTones_6 : decode cX12_mostTones 6 = .ok (.getfield 17, 3) := dqV kk_180 (by decide +kernel)
theorem dX12_mostTones_9 : decode cX12_mostTones 9 = .ok (.bipush 25, 2) := dqS kk_16 (by decide +kernel)
theorem dX12_mostTones_11 : decode cX12_mostTones 11 = .ok (.iaload, 1) := dq0 kk_46 (by decide +kernel)
theorem dX12_mostTones_12 : decode cX12_mostTones 12 = .ok (.if_icmp .ge 36, 3) := dqT kk_162 (by decide +kernel)
theorem dX12_mostTones_48 : decode cX12_mostTones 48 = .ok (.iload_n 1, 1) := dq0 kk_27 (by decide +kernel)
theorem dX12_mostTones_49 : decode cX12_mostTones 49 = .ok (.ireturn, 1) := dq0 kk_172 (by decide +kernel)
theorem dX12_mostTones_15 : decode cX12_mostTones 15 = .ok (.aload_n 0, 1) := dq0 kk_42 (by decide +kernel)
theorem dX12_mostTones_16 : decode cX12_mostTones 16 = .ok (.getfield 17, 3) := dqV kk_180 (by decide +kernel)
theorem dX12_mostTones_19 : decode cX12_mostTones 19 = .ok (.iload_n 2, 1) := dq0 kk_28 (by decide +kernel)
theorem dX12_mostTones_20 : decode cX12_mostTones 20 = .ok (.invokestatic 69, 3) := dqV kk_184 (by decide +kernel)
theorem dX12_mostTones_23 : decode cX12_mostTones 23 = .ok (.invokestatic 76, 3) := dqV kk_184 (by decide +kernel)
theorem dX12_mostTones_26 : decode cX12_mostTones 26 = .ok (.iload_n 1, 1) := dq0 kk_27 (by decide +kernel)
theorem dX12_mostTones_27 : decode cX12_mostTones 27 = .ok (.if_icmp .le 15, 3) := dqT kk_164 (by decide +kernel)
theorem dX12_mostTones_42 : decode cX12_mostTones 42 = .ok (.iinc 2 1, 3) := dqI kk_132 (by decide +kernel)
theorem dX12_mostTones_45 : decode cX12_mostTones 45 = .ok (.goto (-41), 3) := dqT kk_167 (by decide +kernel)
theorem dX12_mostTones_30 : decode cX12_mostTones 30 = .ok (.aload_n 0, 1) := dq0 kk_42 (by decide +kernel)
theorem dX12_mostTones_31 : decode cX12_mostTones 31 = .ok (.getfield 17, 3) := dqV kk_180 (by decide +kernel)
theorem dX12_mostTones_34 : decode cX12_mostTones 34 = .ok (.iload_n 2, 1) := dq0 kk_28 (by decide +kernel)
theorem dX12_mostTones_35 : decode cX12_mostTones 35 = .ok (.invokestatic 69, 3) := dqV kk_184 (by decide +kernel)
theorem dX12_mostTones_38 : decode cX12_mostTones 38 = .ok (.invokestatic 76, 3) := dqV kk_184 (by decide +kernel)
theorem dX12_mostTones_41 : decode cX12_mostTones 41 = .ok (.istore_n 1, 1) := dq0 kk_60 (by decide +kernel)
set_option maxRecDepth 4000 in
theorem q_X12_mostTones {l : Launch} {D : va_G} {B : Nat} {cy : Nat → ClassId} {M : Mem}  (hI : IvR M) : Ci l D B cy yX12_mostTones cX12_mostTones 3 (some .int) 2 44 [.ref (B + 146)] M (fun r M1 => ∃ z : Int, r = zI z ∧ (0 ≤ z ∧ z ≤ 12) ∧ M1 = M) := by
  refine s_anyQ (by decide) (Nat.le_of_ble_eq_true rfl) ?_
  intro p e s m args below meth c ls Q F hr hlocks hQ w hl
  have F : CallFix p m c cX12_mostTones 3 s args TB RX12 := F
  have hx := F.1
  have hb := F.2.1
  have hl : lv_has ls 3 [(0, .ref (B + 146))] := hl
  refine lv_iconst (v := zI 0) hx hb dX12_mostTones_0 rfl ?_
  refine lv_istore_n (lv' := [(1, .int (zI 0)), (0, .ref (B + 146))]) hx hb dX12_mostTones_1 rfl hl (by decide) rfl (fun ls hl => ?_)
  refine lv_iconst (v := zI 0) hx hb dX12_mostTones_2 rfl ?_
  refine lv_istore_n (lv' := [(2, .int (zI 0)), (1, .int (zI 0)), (0, .ref (B + 146))]) hx hb dX12_mostTones_3 rfl hl (by decide) rfl (fun ls hl => ?_)
  have lp4 : ∀ (f : Nat) (v2_4 : Int) (v1_4 : Int), (0 ≤ v2_4 ∧ v2_4 ≤ 12) → (0 ≤ v1_4 ∧ v1_4 ≤ 12) → (Int.toNat (12 - v2_4) < f) → ∀ (H : Heap) (locs : List Loc) (ls : Array Slot), Wd D B cy s s.heap M H locs → lv_has ls 3 [(2, .int (zI v2_4)), (1, .int (zI v1_4)), (0, .ref (B + 146))] → W p l e (rmm 2 44) s m args below meth c H locs 0 0 Q (F0 m 4 ls []) := by
    intro f
    induction f with
    | zero => intros; omega
    | succ f ih4 =>
      intro v2_4 v1_4  iv2_4 iv1_4 hf4 H locs ls w hl
      refine lv_iload_n hx hb dX12_mostTones_4 rfl (lv_at hl 0 rfl) ?_
      refine lv_aload_n hx hb dX12_mostTones_5 rfl (lv_at hl 2 rfl) ?_
      refine f_12_2 F w (a := 146) rfl tb_45 dX12_mostTones_6 ?_
      refine lv_bipush (v := zI 25) hx hb dX12_mostTones_9 (by decide) ?_
      refine g_iald F w (a := 148) rfl (j := 25) ⟨by decide, by decide⟩ (by omega) dX12_mostTones_11 ?_
      obtain ⟨z1, bz1, ez1⟩ := IvR.ld (k := 25) hI (show ivr 148 25 = (0, 12) from rfl) (show 146 ≤ 148 ∧ 148 < 159 by decide)
      refine r_val ez1 ?_
      refine z_icmp_ge (tgt := 48) hx hb (by omega) (by omega) dX12_mostTones_12 (by decide) (fun c2 => ?_) (fun c2 => ?_)
      · refine lv_iload_n hx hb dX12_mostTones_48 rfl (lv_at hl 1 rfl) ?_
        rw [hQ]
        exact e_i F w hr hlocks ⟨_, rfl, ⟨by omega, by omega⟩, rfl⟩ dX12_mostTones_49
      · refine lv_aload_n hx hb dX12_mostTones_15 rfl (lv_at hl 2 rfl) ?_
        refine f_12_2 F w (a := 146) rfl tb_45 dX12_mostTones_16 ?_
        refine lv_iload_n hx hb dX12_mostTones_19 rfl (lv_at hl 0 rfl) ?_
        refine k_Si F w (As := [.ref (B + 148), .int (zI v2_4)]) (rest := []) (q_X12_tonesOf_148 (y := v2_4) ⟨by omega, by omega⟩  hI) gs_X12_69 hs_X12_tonesOf ⟨(Nat.le_of_ble_eq_true rfl), (Nat.le_of_ble_eq_true rfl)⟩ hl.1 rfl (Nat.le_of_ble_eq_true rfl) ⟨Nat.zero_le _, Nat.zero_le _⟩ dX12_mostTones_20 (fun r3 N4 H locs hp w => ?_)
        obtain ⟨z5, rfl, bz5, hMN4⟩ := hp
        rw [hMN4] at w
        refine k_Si F w (As := [.int (zI z5)]) (rest := []) (q_bitsOf (x := z5) ⟨by omega, by omega⟩ ) gs_X12_76 hs_X12_bitsOf ⟨(Nat.le_of_ble_eq_true rfl), (Nat.le_of_ble_eq_true rfl)⟩ hl.1 rfl (Nat.le_of_ble_eq_true rfl) ⟨Nat.zero_le _, Nat.zero_le _⟩ dX12_mostTones_23 (fun r6 N7 H locs hp w => ?_)
        obtain ⟨hrz8, hMz8⟩ := hp
        rw [hMz8] at w
        obtain ⟨z8, bz8, xz8, ez8⟩ := pop2_ex z5 (by omega)
        refine r_val (hrz8.trans ez8) ?_
        refine lv_iload_n hx hb dX12_mostTones_26 rfl (lv_at hl 1 rfl) ?_
        refine z_icmp_le (tgt := 42) hx hb (by omega) (by omega) dX12_mostTones_27 (by decide) (fun c9 => ?_) (fun c9 => ?_)
        · refine z_iinc (v := (v2_4 + 1)) (lv' := [(2, .int (zI (v2_4 + 1))), (1, .int (zI v1_4)), (0, .ref (B + 146))]) hx hb dX12_mostTones_42 hl (k := 0) rfl (by omega) (by decide) rfl (fun ls hl => ?_)
          refine lv_goto (tgt := 4) hx hb dX12_mostTones_45 (by decide) ?_
          exact ih4 (v2_4 + 1) v1_4 (by omega) (by omega)     (by omega) _ _ _ w (lv_sub hl [0, 1, 2] rfl)
        · refine lv_aload_n hx hb dX12_mostTones_30 rfl (lv_at hl 2 rfl) ?_
          refine f_12_2 F w (a := 146) rfl tb_45 dX12_mostTones_31 ?_
          refine lv_iload_n hx hb dX12_mostTones_34 rfl (lv_at hl 0 rfl) ?_
          refine k_Si F w (As := [.ref (B + 148), .int (zI v2_4)]) (rest := []) (q_X12_tonesOf_148 (y := v2_4) ⟨by omega, by omega⟩  hI) gs_X12_69 hs_X12_tonesOf ⟨(Nat.le_of_ble_eq_true rfl), (Nat.le_of_ble_eq_true rfl)⟩ hl.1 rfl (Nat.le_of_ble_eq_true rfl) ⟨Nat.zero_le _, Nat.zero_le _⟩ dX12_mostTones_35 (fun r10 N11 H locs hp w => ?_)
          obtain ⟨z12, rfl, bz12, hMN11⟩ := hp
          rw [hMN11] at w
          refine k_Si F w (As := [.int (zI z12)]) (rest := []) (q_bitsOf (x := z12) ⟨by omega, by omega⟩ ) gs_X12_76 hs_X12_bitsOf ⟨(Nat.le_of_ble_eq_true rfl), (Nat.le_of_ble_eq_true rfl)⟩ hl.1 rfl (Nat.le_of_ble_eq_true rfl) ⟨Nat.zero_le _, Nat.zero_le _⟩ dX12_mostTones_38 (fun r13 N14 H locs hp w => ?_)
          obtain ⟨hrz15, hMz15⟩ := hp
          rw [hMz15] at w
          obtain ⟨z15, bz15, xz15, ez15⟩ := pop2_ex z12 (by omega)
          refine r_val (hrz15.trans ez15) ?_
          refine lv_istore_n (lv' := [(1, .int (zI z15)), (2, .int (zI v2_4)), (0, .ref (B + 146))]) hx hb dX12_mostTones_41 rfl hl (by decide) rfl (fun ls hl => ?_)
          refine z_iinc (v := (v2_4 + 1)) (lv' := [(2, .int (zI (v2_4 + 1))), (1, .int (zI z15)), (0, .ref (B + 146))]) hx hb dX12_mostTones_42 hl (k := 1) rfl (by omega) (by decide) rfl (fun ls hl => ?_)
          refine lv_goto (tgt := 4) hx hb dX12_mostTones_45 (by decide) ?_
          exact ih4 (v2_4 + 1) z15 (by omega) (by omega)     (by omega) _ _ _ w (lv_sub hl [0, 1, 2] rfl)
  exact lp4 _ 0 0 (by omega) (by omega) (Nat.lt_succ_self _) _ _ _ w (lv_sub hl [0, 1, 2] rfl)
theorem dX12_mostSyllables_0 : decode cX12_mostSyllables 0 = .ok (.iconst 0, 1) := dq0 kk_3 (by decide +kernel)
theorem dX12_mostSyllables_1 : decode cX12_mostSyllables 1 = .ok (.istore_n 1, 1) := dq0 kk_60 (by decide +kernel)
theorem dX12_mostSyllables_2 : decode cX12_mostSyllables 2 = .ok (.iconst 0, 1) := dq0 kk_3 (by decide +kernel)
theorem dX12_mostSyllables_3 : decode cX12_mostSyllables 3 = .ok (.istore_n 2, 1) := dq0 kk_61 (by decide +kernel)
theorem dX12_mostSyllables_4 : decode cX12_mostSyllables 4 = .ok (.iload_n 2, 1) := dq0 kk_28 (by decide +kernel)
theorem dX12_mostSyllables_5 : decode cX12_mostSyllables 5 = .ok (.aload_n 0, 1) := dq0 kk_42 (by decide +kernel)
theorem dX12_mostSyllables_6 : decode cX12_mostSyllables 6 = .ok (.getfield 17, 3) := dqV kk_180 (by decide +kernel)
theorem dX12_mostSyllables_9 : decode cX12_mostSyllables 9 = .ok (.iconst 0, 1) := dq0 kk_3 (by decide +kernel)
theorem dX12_mostSyllables_10 : decode cX12_mostSyllables 10 = .ok (.iaload, 1) := dq0 kk_46 (by decide +kernel)
theorem dX12_mostSyllables_11 : decode cX12_mostSyllables 11 = .ok (.if_icmp .ge 38, 3) := dqT kk_162 (by decide +kernel)
theorem dX12_mostSyllables_49 : decode cX12_mostSyllables 49 = .ok (.iload_n 1, 1) := dq0 kk_27 (by decide +kernel)
theorem dX12_mostSyllables_50 : decode cX12_mostSyllables 50 = .ok (.ireturn, 1) := dq0 kk_172 (by decide +kernel)
theorem dX12_mostSyllables_14 : decode cX12_mostSyllables 14 = .ok (.aload_n 0, 1) := dq0 kk_42 (by decide +kernel)
theorem dX12_mostSyllables_15 : decode cX12_mostSyllables 15 = .ok (.getfield 17, 3) := dqV kk_180 (by decide +kernel)
theorem dX12_mostSyllables_18 : decode cX12_mostSyllables 18 = .ok (.bipush 13, 2) := dqS kk_16 (by decide +kernel)
theorem dX12_mostSyllables_20 : decode cX12_mostSyllables 20 = .ok (.iload_n 2, 1) := dq0 kk_28 (by decide +kernel)
theorem dX12_mostSyllables_21 : decode cX12_mostSyllables 21 = .ok (.iadd, 1) := dq0 kk_96 (by decide +kernel)
theorem dX12_mostSyllables_22 : decode cX12_mostSyllables 22 = .ok (.iaload, 1) := dq0 kk_46 (by decide +kernel)
theorem dX12_mostSyllables_23 : decode cX12_mostSyllables 23 = .ok (.invokestatic 76, 3) := dqV kk_184 (by decide +kernel)
theorem dX12_mostSyllables_26 : decode cX12_mostSyllables 26 = .ok (.iload_n 1, 1) := dq0 kk_27 (by decide +kernel)
theorem dX12_mostSyllables_27 : decode cX12_mostSyllables 27 = .ok (.if_icmp .le 16, 3) := dqT kk_164 (by decide +kernel)
theorem dX12_mostSyllables_43 : decode cX12_mostSyllables 43 = .ok (.iinc 2 1, 3) := dqI kk_132 (by decide +kernel)
theorem dX12_mostSyllables_46 : decode cX12_mostSyllables 46 = .ok (.goto (-42), 3) := dqT kk_167 (by decide +kernel)
theorem dX12_mostSyllables_30 : decode cX12_mostSyllables 30 = .ok (.aload_n 0, 1) := dq0 kk_42 (by decide +kernel)
theorem dX12_mostSyllables_31 : decode cX12_mostSyllables 31 = .ok (.getfield 17, 3) := dqV kk_180 (by decide +kernel)
theorem dX12_mostSyllables_34 : decode cX12_mostSyllables 34 = .ok (.bipush 13, 2) := dqS kk_16 (by decide +kernel)
theorem dX12_mostSyllables_36 : decode cX12_mostSyllables 36 = .ok (.iload_n 2, 1) := dq0 kk_28 (by decide +kernel)
theorem dX12_mostSyllables_37 : decode cX12_mostSyllables 37 = .ok (.iadd, 1) := dq0 kk_96 (by decide +kernel)
theorem dX12_mostSyllables_38 : decode cX12_mostSyllables 38 = .ok (.iaload, 1) := dq0 kk_46 (by decide +kernel)
theorem dX12_mostSyllables_39 : decode cX12_mostSyllables 39 = .ok (.invokestatic 76, 3) := dqV kk_184 (by decide +kernel)
theorem dX12_mostSyllables_42 : decode cX12_mostSyllables 42 = .ok (.istore_n 1, 1) := dq0 kk_60 (by decide +kernel)
set_option maxRecDepth 4000 in
theorem q_X12_mostSyllables {l : Launch} {D : va_G} {B : Nat} {cy : Nat → ClassId} {M : Mem}  (hI : IvR M) : Ci l D B cy yX12_mostSyllables cX12_mostSyllables 3 (some .int) 1 22 [.ref (B + 146)] M (fun r M1 => ∃ z : Int, r = zI z ∧ (0 ≤ z ∧ z ≤ 12) ∧ M1 = M) := by
  refine s_anyQ (by decide) (Nat.le_of_ble_eq_true rfl) ?_
  intro p e s m args below meth c ls Q F hr hlocks hQ w hl
  have F : CallFix p m c cX12_mostSyllables 3 s args TB RX12 := F
  have hx := F.1
  have hb := F.2.1
  have hl : lv_has ls 3 [(0, .ref (B + 146))] := hl
  refine lv_iconst (v := zI 0) hx hb dX12_mostSyllables_0 rfl ?_
  refine lv_istore_n (lv' := [(1, .int (zI 0)), (0, .ref (B + 146))]) hx hb dX12_mostSyllables_1 rfl hl (by decide) rfl (fun ls hl => ?_)
  refine lv_iconst (v := zI 0) hx hb dX12_mostSyllables_2 rfl ?_
  refine lv_istore_n (lv' := [(2, .int (zI 0)), (1, .int (zI 0)), (0, .ref (B + 146))]) hx hb dX12_mostSyllables_3 rfl hl (by decide) rfl (fun ls hl => ?_)
  have lp4 : ∀ (f : Nat) (v2_4 : Int) (v1_4 : Int), (0 ≤ v2_4 ∧ v2_4 ≤ 12) → (0 ≤ v1_4 ∧ v1_4 ≤ 12) → (Int.toNat (12 - v2_4) < f) → ∀ (H : Heap) (locs : List Loc) (ls : Array Slot), Wd D B cy s s.heap M H locs → lv_has ls 3 [(2, .int (zI v2_4)), (1, .int (zI v1_4)), (0, .ref (B + 146))] → W p l e (rmm 1 22) s m args below meth c H locs 0 0 Q (F0 m 4 ls []) := by
    intro f
    induction f with
    | zero => intros; omega
    | succ f ih4 =>
      intro v2_4 v1_4  iv2_4 iv1_4 hf4 H locs ls w hl
      refine lv_iload_n hx hb dX12_mostSyllables_4 rfl (lv_at hl 0 rfl) ?_
      refine lv_aload_n hx hb dX12_mostSyllables_5 rfl (lv_at hl 2 rfl) ?_
      refine f_12_2 F w (a := 146) rfl tb_45 dX12_mostSyllables_6 ?_
      refine lv_iconst (v := zI 0) hx hb dX12_mostSyllables_9 rfl ?_
      refine g_iald F w (a := 148) rfl (j := 0) ⟨by decide, by decide⟩ (by omega) dX12_mostSyllables_10 ?_
      obtain ⟨z1, bz1, ez1⟩ := IvR.ld (k := 0) hI (show ivr 148 0 = (0, 12) from rfl) (show 146 ≤ 148 ∧ 148 < 159 by decide)
      refine r_val ez1 ?_
      refine z_icmp_ge (tgt := 49) hx hb (by omega) (by omega) dX12_mostSyllables_11 (by decide) (fun c2 => ?_) (fun c2 => ?_)
      · refine lv_iload_n hx hb dX12_mostSyllables_49 rfl (lv_at hl 1 rfl) ?_
        rw [hQ]
        exact e_i F w hr hlocks ⟨_, rfl, ⟨by omega, by omega⟩, rfl⟩ dX12_mostSyllables_50
      · refine lv_aload_n hx hb dX12_mostSyllables_14 rfl (lv_at hl 2 rfl) ?_
        refine f_12_2 F w (a := 146) rfl tb_45 dX12_mostSyllables_15 ?_
        refine lv_bipush (v := zI 13) hx hb dX12_mostSyllables_18 (by decide) ?_
        refine lv_iload_n hx hb dX12_mostSyllables_20 rfl (lv_at hl 0 rfl) ?_
        refine z_iadd (z := (v2_4 + 13)) hx hb dX12_mostSyllables_21 (by omega) ?_
        refine g_iald F w (a := 148) rfl (j := (13 + Int.toNat v2_4)) (ix_l (t := v2_4) (by omega) (by omega)) (by omega) dX12_mostSyllables_22 ?_
        obtain ⟨z3, bz3, ez3⟩ := IvR.ld (k := (13 + Int.toNat v2_4)) hI (wiv_l (a := 148) (k := (13 + Int.toNat v2_4)) (by omega) (by omega)) (show 146 ≤ 148 ∧ 148 < 159 by decide)
        refine r_val ez3 ?_
        refine k_Si F w (As := [.int (zI z3)]) (rest := []) (q_bitsOf (x := z3) ⟨by omega, by omega⟩ ) gs_X12_76 hs_X12_bitsOf ⟨(Nat.le_of_ble_eq_true rfl), (Nat.le_of_ble_eq_true rfl)⟩ hl.1 rfl (Nat.le_of_ble_eq_true rfl) ⟨Nat.zero_le _, Nat.zero_le _⟩ dX12_mostSyllables_23 (fun r4 N5 H locs hp w => ?_)
        obtain ⟨hrz6, hMz6⟩ := hp
        rw [hMz6] at w
        obtain ⟨z6, bz6, xz6, ez6⟩ := pop2_ex z3 (by omega)
        refine r_val (hrz6.trans ez6) ?_
        refine lv_iload_n hx hb dX12_mostSyllables_26 rfl (lv_at hl 1 rfl) ?_
        refine z_icmp_le (tgt := 43) hx hb (by omega) (by omega) dX12_mostSyllables_27 (by decide) (fun c7 => ?_) (fun c7 => ?_)
        · refine z_iinc (v := (v2_4 + 1)) (lv' := [(2, .int (zI (v2_4 + 1))), (1, .int (zI v1_4)), (0, .ref (B + 146))]) hx hb dX12_mostSyllables_43 hl (k := 0) rfl (by omega) (by decide) rfl (fun ls hl => ?_)
          refine lv_goto (tgt := 4) hx hb dX12_mostSyllables_46 (by decide) ?_
          exact ih4 (v2_4 + 1) v1_4 (by omega) (by omega)     (by omega) _ _ _ w (lv_sub hl [0, 1, 2] rfl)
        · refine lv_aload_n hx hb dX12_mostSyllables_30 rfl (lv_at hl 2 rfl) ?_
          refine f_12_2 F w (a := 146) rfl tb_45 dX12_mostSyllables_31 ?_
          refine lv_bipush (v := zI 13) hx hb dX12_mostSyllables_34 (by decide) ?_
          refine lv_iload_n hx hb dX12_mostSyllables_36 rfl (lv_at hl 0 rfl) ?_
          refine z_iadd (z := (v2_4 + 13)) hx hb dX12_mostSyllables_37 (by omega) ?_
          refine g_iald F w (a := 148) rfl (j := (13 + Int.toNat v2_4)) (ix_l (t := v2_4) (by omega) (by omega)) (by omega) dX12_mostSyllables_38 ?_
          refine r_val (v := zI z3) (ez3) ?_
          refine k_Si F w (As := [.int (zI z3)]) (rest := []) (q_bitsOf (x := z3) ⟨by omega, by omega⟩ ) gs_X12_76 hs_X12_bitsOf ⟨(Nat.le_of_ble_eq_true rfl), (Nat.le_of_ble_eq_true rfl)⟩ hl.1 rfl (Nat.le_of_ble_eq_true rfl) ⟨Nat.zero_le _, Nat.zero_le _⟩ dX12_mostSyllables_39 (fun r8 N9 H locs hp w => ?_)
          obtain ⟨hrz10, hMz10⟩ := hp
          rw [hMz10] at w
          obtain ⟨z10, bz10, xz10, ez10⟩ := pop2_ex z3 (by omega)
          refine r_val (hrz10.trans ez10) ?_
          refine lv_istore_n (lv' := [(1, .int (zI z10)), (2, .int (zI v2_4)), (0, .ref (B + 146))]) hx hb dX12_mostSyllables_42 rfl hl (by decide) rfl (fun ls hl => ?_)
          refine z_iinc (v := (v2_4 + 1)) (lv' := [(2, .int (zI (v2_4 + 1))), (1, .int (zI z10)), (0, .ref (B + 146))]) hx hb dX12_mostSyllables_43 hl (k := 1) rfl (by omega) (by decide) rfl (fun ls hl => ?_)
          refine lv_goto (tgt := 4) hx hb dX12_mostSyllables_46 (by decide) ?_
          exact ih4 (v2_4 + 1) z10 (by omega) (by omega)     (by omega) _ _ _ w (lv_sub hl [0, 1, 2] rfl)
  exact lp4 _ 0 0 (by omega) (by omega) (Nat.lt_succ_self _) _ _ _ w (lv_sub hl [0, 1, 2] rfl)
theorem dX12_toBare_0 : decode cX12_toBare 0 = .ok (.iconst 0, 1) := dq0 kk_3 (by decide +kernel)
theorem dX12_toBare_1 : decode cX12_toBare 1 = .ok (.istore_n 1, 1) := dq0 kk_60 (by decide +kernel)
theorem dX12_toBare_2 : decode cX12_toBare 2 = .ok (.iload_n 1, 1) := dq0 kk_27 (by decide +kernel)
theorem dX12_toBare_3 : decode cX12_toBare 3 = .ok (.aload_n 0, 1) := dq0 kk_42 (by decide +kernel)
theorem dX12_toBare_4 : decode cX12_toBare 4 = .ok (.getfield 17, 3) := dqV kk_180 (by decide +kernel)
theorem dX12_toBare_7 : decode cX12_toBare 7 = .ok (.bipush 25, 2) := dqS kk_16 (by decide +kernel)
theorem dX12_toBare_9 : decode cX12_toBare 9 = .ok (.iaload, 1) := dq0 kk_46 (by decide +kernel)
theorem dX12_toBare_10 : decode cX12_toBare 10 = .ok (.if_icmp .ge 17, 3) := dqT kk_162 (by decide +kernel)
theorem dX12_toBare_27 : decode cX12_toBare 27 = .ok (.iload_n 1, 1) := dq0 kk_27 (by decide +kernel)
theorem dX12_toBare_28 : decode cX12_toBare 28 = .ok (.ireturn, 1) := dq0 kk_172 (by decide +kernel)
theorem dX12_toBare_13 : decode cX12_toBare 13 = .ok (.aload_n 0, 1) := dq0 kk_42 (by decide +kernel)
theorem dX12_toBare_14 : decode cX12_toBare 14 = .ok (.iload_n 1, 1) := dq0 kk_27 (by decide +kernel)
theorem dX12_toBare_15 : decode cX12_toBare 15 = .ok (.invokevirtual 82, 3) := dqV kk_182 (by decide +kernel)
theorem dX12_toBare_18 : decode cX12_toBare 18 = .ok (.ifCond .ne 9, 3) := dqT kk_154 (by decide +kernel)
theorem dX12_toBare_21 : decode cX12_toBare 21 = .ok (.iinc 1 1, 3) := dqI kk_132 (by decide +kernel)
theorem dX12_toBare_24 : decode cX12_toBare 24 = .ok (.goto (-22), 3) := dqT kk_167 (by decide +kernel)
set_option maxRecDepth 4000 in
theorem q_X12_toBare {l : Launch} {D : va_G} {B : Nat} {cy : Nat → ClassId} {M : Mem}  (hI : IvR M) : Ci l D B cy yX12_toBare cX12_toBare 2 (some .int) 3 65 [.ref (B + 146)] M (fun r M1 => ∃ z : Int, r = zI z ∧ (0 ≤ z ∧ z ≤ 12) ∧ M1 = M) := by
  refine s_anyQ (by decide) (Nat.le_of_ble_eq_true rfl) ?_
  intro p e s m args below meth c ls Q F hr hlocks hQ w hl
  have F : CallFix p m c cX12_toBare 2 s args TB RX12 := F
  have hx := F.1
  have hb := F.2.1
  have hl : lv_has ls 2 [(0, .ref (B + 146))] := hl
  refine lv_iconst (v := zI 0) hx hb dX12_toBare_0 rfl ?_
  refine lv_istore_n (lv' := [(1, .int (zI 0)), (0, .ref (B + 146))]) hx hb dX12_toBare_1 rfl hl (by decide) rfl (fun ls hl => ?_)
  have lp2 : ∀ (f : Nat) (v1_2 : Int), (0 ≤ v1_2 ∧ v1_2 ≤ 12) → (Int.toNat (12 - v1_2) < f) → ∀ (H : Heap) (locs : List Loc) (ls : Array Slot), Wd D B cy s s.heap M H locs → lv_has ls 2 [(1, .int (zI v1_2)), (0, .ref (B + 146))] → W p l e (rmm 3 65) s m args below meth c H locs 0 0 Q (F0 m 2 ls []) := by
    intro f
    induction f with
    | zero => intros; omega
    | succ f ih2 =>
      intro v1_2  iv1_2 hf2 H locs ls w hl
      refine lv_iload_n hx hb dX12_toBare_2 rfl (lv_at hl 0 rfl) ?_
      refine lv_aload_n hx hb dX12_toBare_3 rfl (lv_at hl 1 rfl) ?_
      refine f_12_2 F w (a := 146) rfl tb_45 dX12_toBare_4 ?_
      refine lv_bipush (v := zI 25) hx hb dX12_toBare_7 (by decide) ?_
      refine g_iald F w (a := 148) rfl (j := 25) ⟨by decide, by decide⟩ (by omega) dX12_toBare_9 ?_
      obtain ⟨z1, bz1, ez1⟩ := IvR.ld (k := 25) hI (show ivr 148 25 = (0, 12) from rfl) (show 146 ≤ 148 ∧ 148 < 159 by decide)
      refine r_val ez1 ?_
      refine z_icmp_ge (tgt := 27) hx hb (by omega) (by omega) dX12_toBare_10 (by decide) (fun c2 => ?_) (fun c2 => ?_)
      · refine lv_iload_n hx hb dX12_toBare_27 rfl (lv_at hl 0 rfl) ?_
        rw [hQ]
        exact e_i F w hr hlocks ⟨_, rfl, ⟨by omega, by omega⟩, rfl⟩ dX12_toBare_28
      · refine lv_aload_n hx hb dX12_toBare_13 rfl (lv_at hl 1 rfl) ?_
        refine lv_iload_n hx hb dX12_toBare_14 rfl (lv_at hl 0 rfl) ?_
        refine k_Vi F w (As := [.int (zI v1_2)]) (rest := []) (a := 146) (kd_lt (a := 146) (show kd 146 = (12, 0, 0) from rfl) (by decide)) (sh_12 rfl _ _) rfl (q_X12_isBare (y := v1_2) ⟨by omega, by omega⟩  hI) gv_X12_82 hv_X12_isBare ⟨(Nat.le_of_ble_eq_true rfl), (Nat.le_of_ble_eq_true rfl)⟩ hl.1 rfl (Nat.le_of_ble_eq_true rfl) ⟨Nat.zero_le _, Nat.zero_le _⟩ dX12_toBare_15 (fun r3 N4 H locs hp w => ?_)
        obtain ⟨z5, rfl, bz5, hMN4⟩ := hp
        rw [hMN4] at w
        refine z_if_ne (tgt := 27) hx hb (by omega) dX12_toBare_18 (by decide) (fun c6 => ?_) (fun c6 => ?_)
        · refine lv_iload_n hx hb dX12_toBare_27 rfl (lv_at hl 0 rfl) ?_
          rw [hQ]
          exact e_i F w hr hlocks ⟨_, rfl, ⟨by omega, by omega⟩, rfl⟩ dX12_toBare_28
        · refine z_iinc (v := (v1_2 + 1)) (lv' := [(1, .int (zI (v1_2 + 1))), (0, .ref (B + 146))]) hx hb dX12_toBare_21 hl (k := 0) rfl (by omega) (by decide) rfl (fun ls hl => ?_)
          refine lv_goto (tgt := 2) hx hb dX12_toBare_24 (by decide) ?_
          exact ih2 (v1_2 + 1) (by omega)     (by omega) _ _ _ w (lv_sub hl [0, 1] rfl)
  exact lp2 _ 0 (by omega) (Nat.lt_succ_self _) _ _ _ w (lv_sub hl [0, 1] rfl)
theorem dX12_has_0 : decode cX12_has 0 = .ok (.aload_n 0, 1) := dq0 kk_42 (by decide +kernel)
theorem dX12_has_1 : decode cX12_has 1 = .ok (.iload_n 1, 1) := dq0 kk_27 (by decide +kernel)
theorem dX12_has_2 : decode cX12_has 2 = .ok (.invokevirtual 261, 3) := dqV kk_182 (by decide +kernel)
theorem tk_X12_lays : Cond.code yX12_lays cX12_lays 2 (some .boolean) ∈ TB := tbm (tc6 (List.mem_of_getElem? (i := 153) rfl)) rfl
theorem gc_X12_lays : GoodIn TB (cw yX12_lays cX12_lays 2 (some .boolean)) := goodIn_c2 tk_X12_lays
theorem tb_611 : Cond.methodLink "ToneLinesModel" 261 yX12_lays ∈ TB := tbm (tc6 (List.mem_of_getElem? (i := 150) rfl)) rfl
theorem tb_612 : Cond.instanceMethod yX12_lays ∈ TB := tbm (tc6 (List.mem_of_getElem? (i := 152) rfl)) rfl
theorem tb_613 : Cond.selects "ToneLinesModel" yX12_lays yX12_lays ∈ TB := tbp (List.mem_of_getElem? (i := 72) rfl) rfl
theorem gv_X12_261 : GoodIn TB (wsV RX12 261 RX12 yX12_lays (cw yX12_lays cX12_lays 2 (some .boolean))) := goodIn_4 tb_611 tb_612 tb_613 tb_38 gc_X12_lays
theorem hv_X12_lays : yX12_lays.cls = RX12 ∧ yX12_lays.cls ≠ "java/lang/invoke/MethodHandle" ∧ yX12_lays.cls ≠ "java/lang/invoke/VarHandle" ∧ (parseMethodDescriptor yX12_lays.desc).map (fun d => d.parameters.length) = some 1 := by decide +kernel
theorem dX12_has_5 : decode cX12_has 5 = .ok (.ifCond .ne 5, 3) := dqT kk_154 (by decide +kernel)
theorem dX12_has_10 : decode cX12_has 10 = .ok (.iload_n 2, 1) := dq0 kk_28 (by decide +kernel)
theorem dX12_has_11 : decode cX12_has 11 = .ok (.tableswitch 107 0 8 #[49, 56, 64, 69, 74, 79, 92, 97, 102], 49) := by decide +kernel
theorem dX12_has_60 : decode cX12_has 60 = .ok (.aload_n 0, 1) := dq0 kk_42 (by decide +kernel)
theorem dX12_has_61 : decode cX12_has 61 = .ok (.getfield 17, 3) := dqV kk_180 (by decide +kernel)
theorem dX12_has_64 : decode cX12_has 64 = .ok (.iconst 0, 1) := dq0 kk_3 (by decide +kernel)
theorem dX12_has_65 : decode cX12_has 65 = .ok (.iaload, 1) := dq0 kk_46 (by decide +kernel)
theorem dX12_has_66 : decode cX12_has 66 = .ok (.ireturn, 1) := dq0 kk_172 (by decide +kernel)
theorem dX12_has_67 : decode cX12_has 67 = .ok (.aload_n 0, 1) := dq0 kk_42 (by decide +kernel)
theorem dX12_has_68 : decode cX12_has 68 = .ok (.getfield 17, 3) := dqV kk_180 (by decide +kernel)
theorem dX12_has_71 : decode cX12_has 71 = .ok (.bipush 25, 2) := dqS kk_16 (by decide +kernel)
theorem dX12_has_73 : decode cX12_has 73 = .ok (.iaload, 1) := dq0 kk_46 (by decide +kernel)
theorem dX12_has_74 : decode cX12_has 74 = .ok (.ireturn, 1) := dq0 kk_172 (by decide +kernel)
theorem dX12_has_75 : decode cX12_has 75 = .ok (.aload_n 0, 1) := dq0 kk_42 (by decide +kernel)
theorem dX12_has_76 : decode cX12_has 76 = .ok (.invokevirtual 264, 3) := dqV kk_182 (by decide +kernel)
theorem tk_X12_lines : Cond.code yX12_lines cX12_lines 3 (some .int) ∈ TB := tbm (tc6 (List.mem_of_getElem? (i := 157) rfl)) rfl
theorem gc_X12_lines : GoodIn TB (cw yX12_lines cX12_lines 3 (some .int)) := goodIn_c2 tk_X12_lines
theorem tb_614 : Cond.methodLink "ToneLinesModel" 264 yX12_lines ∈ TB := tbm (tc6 (List.mem_of_getElem? (i := 154) rfl)) rfl
theorem tb_615 : Cond.instanceMethod yX12_lines ∈ TB := tbm (tc6 (List.mem_of_getElem? (i := 156) rfl)) rfl
theorem tb_616 : Cond.selects "ToneLinesModel" yX12_lines yX12_lines ∈ TB := tbp (List.mem_of_getElem? (i := 73) rfl) rfl
theorem gv_X12_264 : GoodIn TB (wsV RX12 264 RX12 yX12_lines (cw yX12_lines cX12_lines 3 (some .int))) := goodIn_4 tb_614 tb_615 tb_616 tb_38 gc_X12_lines
theorem hv_X12_lines : yX12_lines.cls = RX12 ∧ yX12_lines.cls ≠ "java/lang/invoke/MethodHandle" ∧ yX12_lines.cls ≠ "java/lang/invoke/VarHandle" ∧ (parseMethodDescriptor yX12_lines.desc).map (fun d => d.parameters.length) = some 0 := by decide +kernel
theorem dX12_has_79 : decode cX12_has 79 = .ok (.ireturn, 1) := dq0 kk_172 (by decide +kernel)
theorem dX12_has_80 : decode cX12_has 80 = .ok (.aload_n 0, 1) := dq0 kk_42 (by decide +kernel)
theorem dX12_has_81 : decode cX12_has 81 = .ok (.invokevirtual 267, 3) := dqV kk_182 (by decide +kernel)
theorem tk_X12_floating : Cond.code yX12_floating cX12_floating 3 (some .int) ∈ TB := tbm (tc6 (List.mem_of_getElem? (i := 161) rfl)) rfl
theorem gc_X12_floating : GoodIn TB (cw yX12_floating cX12_floating 3 (some .int)) := goodIn_c2 tk_X12_floating
theorem tb_617 : Cond.methodLink "ToneLinesModel" 267 yX12_floating ∈ TB := tbm (tc6 (List.mem_of_getElem? (i := 158) rfl)) rfl
theorem tb_618 : Cond.instanceMethod yX12_floating ∈ TB := tbm (tc6 (List.mem_of_getElem? (i := 160) rfl)) rfl
theorem tb_619 : Cond.selects "ToneLinesModel" yX12_floating yX12_floating ∈ TB := tbp (List.mem_of_getElem? (i := 74) rfl) rfl
theorem gv_X12_267 : GoodIn TB (wsV RX12 267 RX12 yX12_floating (cw yX12_floating cX12_floating 3 (some .int))) := goodIn_4 tb_617 tb_618 tb_619 tb_38 gc_X12_floating
theorem hv_X12_floating : yX12_floating.cls = RX12 ∧ yX12_floating.cls ≠ "java/lang/invoke/MethodHandle" ∧ yX12_floating.cls ≠ "java/lang/invoke/VarHandle" ∧ (parseMethodDescriptor yX12_floating.desc).map (fun d => d.parameters.length) = some 0 := by decide +kernel
theorem dX12_has_84 : decode cX12_has 84 = .ok (.ireturn, 1) := dq0 kk_172 (by decide +kernel)
theorem dX12_has_85 : decode cX12_has 85 = .ok (.aload_n 0, 1) := dq0 kk_42 (by decide +kernel)
theorem dX12_has_86 : decode cX12_has 86 = .ok (.invokevirtual 270, 3) := dqV kk_182 (by decide +kernel)
theorem tk_X12_bare : Cond.code yX12_bare cX12_bare 3 (some .int) ∈ TB := tbm (tc6 (List.mem_of_getElem? (i := 165) rfl)) rfl
theorem gc_X12_bare : GoodIn TB (cw yX12_bare cX12_bare 3 (some .int)) := goodIn_c2 tk_X12_bare
theorem tb_620 : Cond.methodLink "ToneLinesModel" 270 yX12_bare ∈ TB := tbm (tc6 (List.mem_of_getElem? (i := 162) rfl)) rfl
theorem tb_621 : Cond.instanceMethod yX12_bare ∈ TB := tbm (tc6 (List.mem_of_getElem? (i := 164) rfl)) rfl
theorem tb_622 : Cond.selects "ToneLinesModel" yX12_bare yX12_bare ∈ TB := tbp (List.mem_of_getElem? (i := 75) rfl) rfl
theorem gv_X12_270 : GoodIn TB (wsV RX12 270 RX12 yX12_bare (cw yX12_bare cX12_bare 3 (some .int))) := goodIn_4 tb_620 tb_621 tb_622 tb_38 gc_X12_bare
theorem hv_X12_bare : yX12_bare.cls = RX12 ∧ yX12_bare.cls ≠ "java/lang/invoke/MethodHandle" ∧ yX12_bare.cls ≠ "java/lang/invoke/VarHandle" ∧ (parseMethodDescriptor yX12_bare.desc).map (fun d => d.parameters.length) = some 0 := by decide +kernel
theorem dX12_has_89 : decode cX12_has 89 = .ok (.ireturn, 1) := dq0 kk_172 (by decide +kernel)
theorem dX12_has_90 : decode cX12_has 90 = .ok (.aload_n 0, 1) := dq0 kk_42 (by decide +kernel)
theorem dX12_has_91 : decode cX12_has 91 = .ok (.aload_n 0, 1) := dq0 kk_42 (by decide +kernel)
theorem dX12_has_92 : decode cX12_has 92 = .ok (.getfield 17, 3) := dqV kk_180 (by decide +kernel)
theorem dX12_has_95 : decode cX12_has 95 = .ok (.iconst 0, 1) := dq0 kk_3 (by decide +kernel)
theorem dX12_has_96 : decode cX12_has 96 = .ok (.iaload, 1) := dq0 kk_46 (by decide +kernel)
theorem dX12_has_97 : decode cX12_has 97 = .ok (.iconst 1, 1) := dq0 kk_4 (by decide +kernel)
theorem dX12_has_98 : decode cX12_has 98 = .ok (.isub, 1) := dq0 kk_100 (by decide +kernel)
theorem dX12_has_99 : decode cX12_has 99 = .ok (.invokevirtual 273, 3) := dqV kk_182 (by decide +kernel)
theorem tk_X12_fallsTo : Cond.code yX12_fallsTo cX12_fallsTo 4 (some .int) ∈ TB := tbm (tc6 (List.mem_of_getElem? (i := 169) rfl)) rfl
theorem gc_X12_fallsTo : GoodIn TB (cw yX12_fallsTo cX12_fallsTo 4 (some .int)) := goodIn_c2 tk_X12_fallsTo
theorem tb_623 : Cond.methodLink "ToneLinesModel" 273 yX12_fallsTo ∈ TB := tbm (tc6 (List.mem_of_getElem? (i := 166) rfl)) rfl
theorem tb_624 : Cond.instanceMethod yX12_fallsTo ∈ TB := tbm (tc6 (List.mem_of_getElem? (i := 168) rfl)) rfl
theorem tb_625 : Cond.selects "ToneLinesModel" yX12_fallsTo yX12_fallsTo ∈ TB := tbp (List.mem_of_getElem? (i := 76) rfl) rfl
theorem gv_X12_273 : GoodIn TB (wsV RX12 273 RX12 yX12_fallsTo (cw yX12_fallsTo cX12_fallsTo 4 (some .int))) := goodIn_4 tb_623 tb_624 tb_625 tb_38 gc_X12_fallsTo
theorem hv_X12_fallsTo : yX12_fallsTo.cls = RX12 ∧ yX12_fallsTo.cls ≠ "java/lang/invoke/MethodHandle" ∧ yX12_fallsTo.cls ≠ "java/lang/invoke/VarHandle" ∧ (parseMethodDescriptor yX12_fallsTo.desc).map (fun d => d.parameters.length) = some 1 := by decide +kernel
theorem dX12_has_102 : decode cX12_has 102 = .ok (.ireturn, 1) := dq0 kk_172 (by decide +kernel)
theorem dX12_has_103 : decode cX12_has 103 = .ok (.aload_n 0, 1) := dq0 kk_42 (by decide +kernel)
theorem dX12_has_104 : decode cX12_has 104 = .ok (.invokevirtual 276, 3) := dqV kk_182 (by decide +kernel)
theorem tk_X12_mostTones : Cond.code yX12_mostTones cX12_mostTones 3 (some .int) ∈ TB := tbm (tc6 (List.mem_of_getElem? (i := 177) rfl)) rfl
theorem gc_X12_mostTones : GoodIn TB (cw yX12_mostTones cX12_mostTones 3 (some .int)) := goodIn_c2 tk_X12_mostTones
theorem tb_626 : Cond.methodLink "ToneLinesModel" 276 yX12_mostTones ∈ TB := tbm (tc6 (List.mem_of_getElem? (i := 174) rfl)) rfl
theorem tb_627 : Cond.instanceMethod yX12_mostTones ∈ TB := tbm (tc6 (List.mem_of_getElem? (i := 176) rfl)) rfl
theorem tb_628 : Cond.selects "ToneLinesModel" yX12_mostTones yX12_mostTones ∈ TB := tbp (List.mem_of_getElem? (i := 78) rfl) rfl
theorem gv_X12_276 : GoodIn TB (wsV RX12 276 RX12 yX12_mostTones (cw yX12_mostTones cX12_mostTones 3 (some .int))) := goodIn_4 tb_626 tb_627 tb_628 tb_38 gc_X12_mostTones
theorem hv_X12_mostTones : yX12_mostTones.cls = RX12 ∧ yX12_mostTones.cls ≠ "java/lang/invoke/MethodHandle" ∧ yX12_mostTones.cls ≠ "java/lang/invoke/VarHandle" ∧ (parseMethodDescriptor yX12_mostTones.desc).map (fun d => d.parameters.length) = some 0 := by decide +kernel
theorem dX12_has_107 : decode cX12_has 107 = .ok (.ireturn, 1) := dq0 kk_172 (by decide +kernel)
theorem dX12_has_108 : decode cX12_has 108 = .ok (.aload_n 0, 1) := dq0 kk_42 (by decide +kernel)
theorem dX12_has_109 : decode cX12_has 109 = .ok (.invokevirtual 279, 3) := dqV kk_182 (by decide +kernel)
theorem tk_X12_mostSyllables : Cond.code yX12_mostSyllables cX12_mostSyllables 3 (some .int) ∈ TB := tbm (tc6 (List.mem_of_getElem? (i := 181) rfl)) rfl
theorem gc_X12_mostSyllables : GoodIn TB (cw yX12_mostSyllables cX12_mostSyllables 3 (some .int)) := goodIn_c2 tk_X12_mostSyllables
theorem tb_629 : Cond.methodLink "ToneLinesModel" 279 yX12_mostSyllables ∈ TB := tbm (tc6 (List.mem_of_getElem? (i := 178) rfl)) rfl
theorem tb_630 : Cond.instanceMethod yX12_mostSyllables ∈ TB := tbm (tc6 (List.mem_of_getElem? (i := 180) rfl)) rfl
theorem tb_631 : Cond.selects "ToneLinesModel" yX12_mostSyllables yX12_mostSyllables ∈ TB := tbp (List.mem_of_getElem? (i := 79) rfl) rfl
theorem gv_X12_279 : GoodIn TB (wsV RX12 279 RX12 yX12_mostSyllables (cw yX12_mostSyllables cX12_mostSyllables 3 (some .int))) := goodIn_4 tb_629 tb_630 tb_631 tb_38 gc_X12_mostSyllables
theorem hv_X12_mostSyllables : yX12_mostSyllables.cls = RX12 ∧ yX12_mostSyllables.cls ≠ "java/lang/invoke/MethodHandle" ∧ yX12_mostSyllables.cls ≠ "java/lang/invoke/VarHandle" ∧ (parseMethodDescriptor yX12_mostSyllables.desc).map (fun d => d.parameters.length) = some 0 := by decide +kernel
theorem dX12_has_112 : decode cX12_has 112 = .ok (.ireturn, 1) := dq0 kk_172 (by decide +kernel)
theorem dX12_has_113 : decode cX12_has 113 = .ok (.aload_n 0, 1) := dq0 kk_42 (by decide +kernel)
theorem dX12_has_114 : decode cX12_has 114 = .ok (.invokevirtual 282, 3) := dqV kk_182 (by decide +kernel)
theorem tk_X12_toBare : Cond.code yX12_toBare cX12_toBare 2 (some .int) ∈ TB := tbm (tc6 (List.mem_of_getElem? (i := 185) rfl)) rfl
theorem gc_X12_toBare : GoodIn TB (cw yX12_toBare cX12_toBare 2 (some .int)) := goodIn_c2 tk_X12_toBare
theorem tb_632 : Cond.methodLink "ToneLinesModel" 282 yX12_toBare ∈ TB := tbm (tc6 (List.mem_of_getElem? (i := 182) rfl)) rfl
theorem tb_633 : Cond.instanceMethod yX12_toBare ∈ TB := tbm (tc6 (List.mem_of_getElem? (i := 184) rfl)) rfl
theorem tb_634 : Cond.selects "ToneLinesModel" yX12_toBare yX12_toBare ∈ TB := tbp (List.mem_of_getElem? (i := 80) rfl) rfl
theorem gv_X12_282 : GoodIn TB (wsV RX12 282 RX12 yX12_toBare (cw yX12_toBare cX12_toBare 2 (some .int))) := goodIn_4 tb_632 tb_633 tb_634 tb_38 gc_X12_toBare
theorem hv_X12_toBare : yX12_toBare.cls = RX12 ∧ yX12_toBare.cls ≠ "java/lang/invoke/MethodHandle" ∧ yX12_toBare.cls ≠ "java/lang/invoke/VarHandle" ∧ (parseMethodDescriptor yX12_toBare.desc).map (fun d => d.parameters.length) = some 0 := by decide +kernel
theorem dX12_has_117 : decode cX12_has 117 = .ok (.ireturn, 1) := dq0 kk_172 (by decide +kernel)
theorem dX12_has_118 : decode cX12_has 118 = .ok (.iconst (-1), 1) := dq0 kk_2 (by decide +kernel)
theorem dX12_has_119 : decode cX12_has 119 = .ok (.ireturn, 1) := dq0 kk_172 (by decide +kernel)
theorem dX12_has_8 : decode cX12_has 8 = .ok (.iconst (-1), 1) := dq0 kk_2 (by decide +kernel)
theorem dX12_has_9 : decode cX12_has 9 = .ok (.ireturn, 1) := dq0 kk_172 (by decide +kernel)
set_option maxRecDepth 4000 in
theorem q_X12_has {l : Launch} {D : va_G} {B : Nat} {cy : Nat → ClassId} {M : Mem} {x : Int} (hx : (-2147483648) ≤ x ∧ x ≤ 2147483647) {x1 : Int} (hx1 : (-2147483648) ≤ x1 ∧ x1 ≤ 2147483647) (hI : IvR M) : Ci l D B cy yX12_has cX12_has 3 (some .int) 10 233 [.ref (B + 146), .int (zI x), .int (zI x1)] M (fun r M1 => ∃ z : Int, r = zI z ∧ ((-2147483648) ≤ z ∧ z ≤ 2147483647) ∧ IvR M1 ∧ Fr (fun b9 k9 => (b9 = 146 ∧ k9 = 3) ∨ (b9 = 146 ∧ k9 = 6) ∨ b9 = 148) M1 M) := by
  refine s_anyQ (by decide) (Nat.le_of_ble_eq_true rfl) ?_
  intro p e s m args below meth c ls Q F hr hlocks hQ w hl
  have F : CallFix p m c cX12_has 3 s args TB RX12 := F
  have hx := F.1
  have hb := F.2.1
  have hl : lv_has ls 3 [(0, .ref (B + 146)), (1, .int (zI x)), (2, .int (zI x1))] := hl
  have hF : Fr (fun b9 k9 => (b9 = 146 ∧ k9 = 3) ∨ (b9 = 146 ∧ k9 = 6) ∨ b9 = 148) M M := Fr.rf
  refine lv_aload_n hx hb dX12_has_0 rfl (lv_at hl 0 rfl) ?_
  refine lv_iload_n hx hb dX12_has_1 rfl (lv_at hl 1 rfl) ?_
  refine k_Vi F w (As := [.int (zI x)]) (rest := []) (a := 146) (kd_lt (a := 146) (show kd 146 = (12, 0, 0) from rfl) (by decide)) (sh_12 rfl _ _) rfl (q_X12_lays (x := x) ⟨by omega, by omega⟩  hI) gv_X12_261 hv_X12_lays ⟨(Nat.le_of_ble_eq_true rfl), (Nat.le_of_ble_eq_true rfl)⟩ hl.1 rfl (Nat.le_of_ble_eq_true rfl) ⟨Nat.zero_le _, Nat.zero_le _⟩ dX12_has_2 (fun r1 N2 H locs hp w => ?_)
  obtain ⟨z3, rfl, bz3, hIN2, hFN2⟩ := hp
  have hGN2 := Fr.tr hF hFN2 (S := (fun b9 k9 => (b9 = 146 ∧ k9 = 3) ∨ (b9 = 146 ∧ k9 = 6) ∨ b9 = 148)) (fun b k h => by (try dsimp only at h ⊢); rcases h with ⟨rfl, rfl⟩ | ⟨rfl, rfl⟩ | rfl <;> first | decide | omega)
  refine z_if_ne (tgt := 10) hx hb (by omega) dX12_has_5 (by decide) (fun c4 => ?_) (fun c4 => ?_)
  · refine lv_iload_n hx hb dX12_has_10 rfl (lv_at hl 2 rfl) ?_
    rcases (show x1 = 0 ∨ x1 = 1 ∨ x1 = 2 ∨ x1 = 3 ∨ x1 = 4 ∨ x1 = 5 ∨ x1 = 6 ∨ x1 = 7 ∨ x1 = 8 ∨ (x1 ≠ 0 ∧ x1 ≠ 1 ∧ x1 ≠ 2 ∧ x1 ≠ 3 ∧ x1 ≠ 4 ∧ x1 ≠ 5 ∧ x1 ≠ 6 ∧ x1 ≠ 7 ∧ x1 ≠ 8) by omega) with c5 | c5 | c5 | c5 | c5 | c5 | c5 | c5 | c5 | c5
    · refine r_val (v := zI 0) (congrArg zI c5) ?_
      refine lv_tableIn (tgt := 60) hx hb dX12_has_11 (by decide) (by decide) (off := 49) rfl (by decide) ?_
      refine lv_aload_n hx hb dX12_has_60 rfl (lv_at hl 0 rfl) ?_
      refine f_12_2 F w (a := 146) rfl tb_45 dX12_has_61 ?_
      refine lv_iconst (v := zI 0) hx hb dX12_has_64 rfl ?_
      refine g_iald F w (a := 148) rfl (j := 0) ⟨by decide, by decide⟩ (by omega) dX12_has_65 ?_
      obtain ⟨z6, bz6, ez6⟩ := IvR.ld (k := 0) hIN2 (show ivr 148 0 = (0, 12) from rfl) (show 146 ≤ 148 ∧ 148 < 159 by decide)
      refine r_val ez6 ?_
      rw [hQ]
      exact e_i F w hr hlocks ⟨_, rfl, ⟨by omega, by omega⟩, hIN2, hGN2⟩ dX12_has_66
    · refine r_val (v := zI 1) (congrArg zI c5) ?_
      refine lv_tableIn (tgt := 67) hx hb dX12_has_11 (by decide) (by decide) (off := 56) rfl (by decide) ?_
      refine lv_aload_n hx hb dX12_has_67 rfl (lv_at hl 0 rfl) ?_
      refine f_12_2 F w (a := 146) rfl tb_45 dX12_has_68 ?_
      refine lv_bipush (v := zI 25) hx hb dX12_has_71 (by decide) ?_
      refine g_iald F w (a := 148) rfl (j := 25) ⟨by decide, by decide⟩ (by omega) dX12_has_73 ?_
      obtain ⟨z7, bz7, ez7⟩ := IvR.ld (k := 25) hIN2 (show ivr 148 25 = (0, 12) from rfl) (show 146 ≤ 148 ∧ 148 < 159 by decide)
      refine r_val ez7 ?_
      rw [hQ]
      exact e_i F w hr hlocks ⟨_, rfl, ⟨by omega, by omega⟩, hIN2, hGN2⟩ dX12_has_74
    · refine r_val (v := zI 2) (congrArg zI c5) ?_
      refine lv_tableIn (tgt := 75) hx hb dX12_has_11 (by decide) (by decide) (off := 64) rfl (by decide) ?_
      refine lv_aload_n hx hb dX12_has_75 rfl (lv_at hl 0 rfl) ?_
      refine k_Vi F w (As := []) (rest := []) (a := 146) (kd_lt (a := 146) (show kd 146 = (12, 0, 0) from rfl) (by decide)) (sh_12 rfl _ _) rfl (q_X12_lines   hIN2) gv_X12_264 hv_X12_lines ⟨(Nat.le_of_ble_eq_true rfl), (Nat.le_of_ble_eq_true rfl)⟩ hl.1 rfl (Nat.le_of_ble_eq_true rfl) ⟨Nat.zero_le _, Nat.zero_le _⟩ dX12_has_76 (fun r8 N9 H locs hp w => ?_)
      obtain ⟨z10, rfl, bz10, hMN9⟩ := hp
      rw [hMN9] at w
      rw [hQ]
      exact e_i F w hr hlocks ⟨_, rfl, ⟨by omega, by omega⟩, hIN2, hGN2⟩ dX12_has_79
    · refine r_val (v := zI 3) (congrArg zI c5) ?_
      refine lv_tableIn (tgt := 80) hx hb dX12_has_11 (by decide) (by decide) (off := 69) rfl (by decide) ?_
      refine lv_aload_n hx hb dX12_has_80 rfl (lv_at hl 0 rfl) ?_
      refine k_Vi F w (As := []) (rest := []) (a := 146) (kd_lt (a := 146) (show kd 146 = (12, 0, 0) from rfl) (by decide)) (sh_12 rfl _ _) rfl (q_X12_floating   hIN2) gv_X12_267 hv_X12_floating ⟨(Nat.le_of_ble_eq_true rfl), (Nat.le_of_ble_eq_true rfl)⟩ hl.1 rfl (Nat.le_of_ble_eq_true rfl) ⟨Nat.zero_le _, Nat.zero_le _⟩ dX12_has_81 (fun r11 N12 H locs hp w => ?_)
      obtain ⟨z13, rfl, bz13, hMN12⟩ := hp
      rw [hMN12] at w
      rw [hQ]
      exact e_i F w hr hlocks ⟨_, rfl, ⟨by omega, by omega⟩, hIN2, hGN2⟩ dX12_has_84
    · refine r_val (v := zI 4) (congrArg zI c5) ?_
      refine lv_tableIn (tgt := 85) hx hb dX12_has_11 (by decide) (by decide) (off := 74) rfl (by decide) ?_
      refine lv_aload_n hx hb dX12_has_85 rfl (lv_at hl 0 rfl) ?_
      refine k_Vi F w (As := []) (rest := []) (a := 146) (kd_lt (a := 146) (show kd 146 = (12, 0, 0) from rfl) (by decide)) (sh_12 rfl _ _) rfl (q_X12_bare   hIN2) gv_X12_270 hv_X12_bare ⟨(Nat.le_of_ble_eq_true rfl), (Nat.le_of_ble_eq_true rfl)⟩ hl.1 rfl (Nat.le_of_ble_eq_true rfl) ⟨Nat.zero_le _, Nat.zero_le _⟩ dX12_has_86 (fun r14 N15 H locs hp w => ?_)
      obtain ⟨z16, rfl, bz16, hMN15⟩ := hp
      rw [hMN15] at w
      rw [hQ]
      exact e_i F w hr hlocks ⟨_, rfl, ⟨by omega, by omega⟩, hIN2, hGN2⟩ dX12_has_89
    · refine r_val (v := zI 5) (congrArg zI c5) ?_
      refine lv_tableIn (tgt := 90) hx hb dX12_has_11 (by decide) (by decide) (off := 79) rfl (by decide) ?_
      refine lv_aload_n hx hb dX12_has_90 rfl (lv_at hl 0 rfl) ?_
      refine lv_aload_n hx hb dX12_has_91 rfl (lv_at hl 0 rfl) ?_
      refine f_12_2 F w (a := 146) rfl tb_45 dX12_has_92 ?_
      refine lv_iconst (v := zI 0) hx hb dX12_has_95 rfl ?_
      refine g_iald F w (a := 148) rfl (j := 0) ⟨by decide, by decide⟩ (by omega) dX12_has_96 ?_
      obtain ⟨z17, bz17, ez17⟩ := IvR.ld (k := 0) hIN2 (show ivr 148 0 = (0, 12) from rfl) (show 146 ≤ 148 ∧ 148 < 159 by decide)
      refine r_val ez17 ?_
      refine lv_iconst (v := zI 1) hx hb dX12_has_97 rfl ?_
      refine z_isub (z := (z17 - 1)) hx hb dX12_has_98 (by omega) ?_
      refine k_Vi F w (As := [.int (zI (z17 - 1))]) (rest := []) (a := 146) (kd_lt (a := 146) (show kd 146 = (12, 0, 0) from rfl) (by decide)) (sh_12 rfl _ _) rfl (q_X12_fallsTo (t := (z17 - 1)) ⟨by omega, by omega⟩  hIN2) gv_X12_273 hv_X12_fallsTo ⟨(Nat.le_of_ble_eq_true rfl), (Nat.le_of_ble_eq_true rfl)⟩ hl.1 rfl (Nat.le_of_ble_eq_true rfl) ⟨Nat.zero_le _, Nat.zero_le _⟩ dX12_has_99 (fun r18 N19 H locs hp w => ?_)
      obtain ⟨z20, rfl, bz20, hMN19⟩ := hp
      rw [hMN19] at w
      rw [hQ]
      exact e_i F w hr hlocks ⟨_, rfl, ⟨by omega, by omega⟩, hIN2, hGN2⟩ dX12_has_102
    · refine r_val (v := zI 6) (congrArg zI c5) ?_
      refine lv_tableIn (tgt := 103) hx hb dX12_has_11 (by decide) (by decide) (off := 92) rfl (by decide) ?_
      refine lv_aload_n hx hb dX12_has_103 rfl (lv_at hl 0 rfl) ?_
      refine k_Vi F w (As := []) (rest := []) (a := 146) (kd_lt (a := 146) (show kd 146 = (12, 0, 0) from rfl) (by decide)) (sh_12 rfl _ _) rfl (q_X12_mostTones   hIN2) gv_X12_276 hv_X12_mostTones ⟨(Nat.le_of_ble_eq_true rfl), (Nat.le_of_ble_eq_true rfl)⟩ hl.1 rfl (Nat.le_of_ble_eq_true rfl) ⟨Nat.zero_le _, Nat.zero_le _⟩ dX12_has_104 (fun r21 N22 H locs hp w => ?_)
      obtain ⟨z23, rfl, bz23, hMN22⟩ := hp
      rw [hMN22] at w
      rw [hQ]
      exact e_i F w hr hlocks ⟨_, rfl, ⟨by omega, by omega⟩, hIN2, hGN2⟩ dX12_has_107
    · refine r_val (v := zI 7) (congrArg zI c5) ?_
      refine lv_tableIn (tgt := 108) hx hb dX12_has_11 (by decide) (by decide) (off := 97) rfl (by decide) ?_
      refine lv_aload_n hx hb dX12_has_108 rfl (lv_at hl 0 rfl) ?_
      refine k_Vi F w (As := []) (rest := []) (a := 146) (kd_lt (a := 146) (show kd 146 = (12, 0, 0) from rfl) (by decide)) (sh_12 rfl _ _) rfl (q_X12_mostSyllables   hIN2) gv_X12_279 hv_X12_mostSyllables ⟨(Nat.le_of_ble_eq_true rfl), (Nat.le_of_ble_eq_true rfl)⟩ hl.1 rfl (Nat.le_of_ble_eq_true rfl) ⟨Nat.zero_le _, Nat.zero_le _⟩ dX12_has_109 (fun r24 N25 H locs hp w => ?_)
      obtain ⟨z26, rfl, bz26, hMN25⟩ := hp
      rw [hMN25] at w
      rw [hQ]
      exact e_i F w hr hlocks ⟨_, rfl, ⟨by omega, by omega⟩, hIN2, hGN2⟩ dX12_has_112
    · refine r_val (v := zI 8) (congrArg zI c5) ?_
      refine lv_tableIn (tgt := 113) hx hb dX12_has_11 (by decide) (by decide) (off := 102) rfl (by decide) ?_
      refine lv_aload_n hx hb dX12_has_113 rfl (lv_at hl 0 rfl) ?_
      refine k_Vi F w (As := []) (rest := []) (a := 146) (kd_lt (a := 146) (show kd 146 = (12, 0, 0) from rfl) (by decide)) (sh_12 rfl _ _) rfl (q_X12_toBare   hIN2) gv_X12_282 hv_X12_toBare ⟨(Nat.le_of_ble_eq_true rfl), (Nat.le_of_ble_eq_true rfl)⟩ hl.1 rfl (Nat.le_of_ble_eq_true rfl) ⟨Nat.zero_le _, Nat.zero_le _⟩ dX12_has_114 (fun r27 N28 H locs hp w => ?_)
      obtain ⟨z29, rfl, bz29, hMN28⟩ := hp
      rw [hMN28] at w
      rw [hQ]
      exact e_i F w hr hlocks ⟨_, rfl, ⟨by omega, by omega⟩, hIN2, hGN2⟩ dX12_has_117
    · refine lv_tableOut (tgt := 118) hx hb dX12_has_11 (by rw [zI_toInt (by omega)]; omega) (by decide) ?_
      refine lv_iconst (v := zI (-1)) hx hb dX12_has_118 rfl ?_
      rw [hQ]
      exact e_i F w hr hlocks ⟨_, rfl, ⟨by omega, by omega⟩, hIN2, hGN2⟩ dX12_has_119
  · refine lv_iconst (v := zI (-1)) hx hb dX12_has_8 rfl ?_
    rw [hQ]
    exact e_i F w hr hlocks ⟨_, rfl, ⟨by omega, by omega⟩, hIN2, hGN2⟩ dX12_has_9
theorem dX12_orNeither_0 : decode cX12_orNeither 0 = .ok (.iload_n 0, 1) := dq0 kk_26 (by decide +kernel)
theorem dX12_orNeither_1 : decode cX12_orNeither 1 = .ok (.iconst (-1), 1) := dq0 kk_2 (by decide +kernel)
theorem dX12_orNeither_2 : decode cX12_orNeither 2 = .ok (.if_icmp .ne 8, 3) := dqT kk_160 (by decide +kernel)
theorem dX12_orNeither_10 : decode cX12_orNeither 10 = .ok (.iload_n 0, 1) := dq0 kk_26 (by decide +kernel)
theorem dX12_orNeither_11 : decode cX12_orNeither 11 = .ok (.ireturn, 1) := dq0 kk_172 (by decide +kernel)
theorem dX12_orNeither_5 : decode cX12_orNeither 5 = .ok (.bipush (-2), 2) := dqS kk_16 (by decide +kernel)
theorem dX12_orNeither_7 : decode cX12_orNeither 7 = .ok (.goto 4, 3) := dqT kk_167 (by decide +kernel)
set_option maxRecDepth 4000 in
theorem q_X12_orNeither {l : Launch} {D : va_G} {B : Nat} {cy : Nat → ClassId} {M : Mem} {x : Int} (hx : (-2147483648) ≤ x ∧ x ≤ 2147483647) (hI : IvR M) : Ci l D B cy yX12_orNeither cX12_orNeither 1 (some .int) 0 0 [.int (zI x)] M (fun r M1 => ∃ z : Int, r = zI z ∧ ((-2147483648) ≤ z ∧ z ≤ 2147483647) ∧ M1 = M) := by
  refine s_anyQ (by decide) (Nat.le_of_ble_eq_true rfl) ?_
  intro p e s m args below meth c ls Q F hr hlocks hQ w hl
  have F : CallFix p m c cX12_orNeither 1 s args TB RX12 := F
  have hx := F.1
  have hb := F.2.1
  have hl : lv_has ls 1 [(0, .int (zI x))] := hl
  refine lv_iload_n hx hb dX12_orNeither_0 rfl (lv_at hl 0 rfl) ?_
  refine lv_iconst (v := zI (-1)) hx hb dX12_orNeither_1 rfl ?_
  refine z_icmp_ne (tgt := 10) hx hb (by omega) (by omega) dX12_orNeither_2 (by decide) (fun c1 => ?_) (fun c1 => ?_)
  · refine lv_iload_n hx hb dX12_orNeither_10 rfl (lv_at hl 0 rfl) ?_
    rw [hQ]
    exact e_i F w hr hlocks ⟨_, rfl, ⟨by omega, by omega⟩, rfl⟩ dX12_orNeither_11
  · refine lv_bipush (v := zI (-2)) hx hb dX12_orNeither_5 (by decide) ?_
    refine lv_goto (tgt := 11) hx hb dX12_orNeither_7 (by decide) ?_
    rw [hQ]
    exact e_i F w hr hlocks ⟨_, rfl, ⟨by omega, by omega⟩, rfl⟩ dX12_orNeither_11
theorem dX12_toneAt_0 : decode cX12_toneAt 0 = .ok (.aload_n 0, 1) := dq0 kk_42 (by decide +kernel)
theorem dX12_toneAt_1 : decode cX12_toneAt 1 = .ok (.iload_n 1, 1) := dq0 kk_27 (by decide +kernel)
theorem dX12_toneAt_2 : decode cX12_toneAt 2 = .ok (.invokevirtual 261, 3) := dqV kk_182 (by decide +kernel)
theorem dX12_toneAt_5 : decode cX12_toneAt 5 = .ok (.ifCond .ne 5, 3) := dqT kk_154 (by decide +kernel)
theorem dX12_toneAt_10 : decode cX12_toneAt 10 = .ok (.aload_n 0, 1) := dq0 kk_42 (by decide +kernel)
theorem dX12_toneAt_11 : decode cX12_toneAt 11 = .ok (.getfield 17, 3) := dqV kk_180 (by decide +kernel)
theorem dX12_toneAt_14 : decode cX12_toneAt 14 = .ok (.iload_n 2, 1) := dq0 kk_28 (by decide +kernel)
theorem dX12_toneAt_15 : decode cX12_toneAt 15 = .ok (.invokestatic 105, 3) := dqV kk_184 (by decide +kernel)
theorem dX12_toneAt_18 : decode cX12_toneAt 18 = .ok (.ifCond .ne 15, 3) := dqT kk_154 (by decide +kernel)
theorem dX12_toneAt_33 : decode cX12_toneAt 33 = .ok (.aload_n 0, 1) := dq0 kk_42 (by decide +kernel)
theorem dX12_toneAt_34 : decode cX12_toneAt 34 = .ok (.getfield 17, 3) := dqV kk_180 (by decide +kernel)
theorem dX12_toneAt_37 : decode cX12_toneAt 37 = .ok (.bipush 13, 2) := dqS kk_16 (by decide +kernel)
theorem dX12_toneAt_39 : decode cX12_toneAt 39 = .ok (.iload_n 2, 1) := dq0 kk_28 (by decide +kernel)
theorem dX12_toneAt_40 : decode cX12_toneAt 40 = .ok (.iadd, 1) := dq0 kk_96 (by decide +kernel)
theorem dX12_toneAt_41 : decode cX12_toneAt 41 = .ok (.iaload, 1) := dq0 kk_46 (by decide +kernel)
theorem dX12_toneAt_42 : decode cX12_toneAt 42 = .ok (.istore 4, 2) := dqU kk_54 (by decide +kernel)
theorem dX12_toneAt_44 : decode cX12_toneAt 44 = .ok (.aload_n 0, 1) := dq0 kk_42 (by decide +kernel)
theorem dX12_toneAt_45 : decode cX12_toneAt 45 = .ok (.getfield 17, 3) := dqV kk_180 (by decide +kernel)
theorem dX12_toneAt_48 : decode cX12_toneAt 48 = .ok (.iconst 1, 1) := dq0 kk_4 (by decide +kernel)
theorem dX12_toneAt_49 : decode cX12_toneAt 49 = .ok (.iload_n 2, 1) := dq0 kk_28 (by decide +kernel)
theorem dX12_toneAt_50 : decode cX12_toneAt 50 = .ok (.iadd, 1) := dq0 kk_96 (by decide +kernel)
theorem dX12_toneAt_51 : decode cX12_toneAt 51 = .ok (.iaload, 1) := dq0 kk_46 (by decide +kernel)
theorem dX12_toneAt_52 : decode cX12_toneAt 52 = .ok (.istore 5, 2) := dqU kk_54 (by decide +kernel)
theorem dX12_toneAt_54 : decode cX12_toneAt 54 = .ok (.iload_n 3, 1) := dq0 kk_29 (by decide +kernel)
theorem dX12_toneAt_55 : decode cX12_toneAt 55 = .ok (.tableswitch 73 0 4 #[33, 36, 45, 54, 60], 33) := by decide +kernel
theorem dX12_toneAt_88 : decode cX12_toneAt 88 = .ok (.iload 5, 2) := dqU kk_21 (by decide +kernel)
theorem dX12_toneAt_90 : decode cX12_toneAt 90 = .ok (.ireturn, 1) := dq0 kk_172 (by decide +kernel)
theorem dX12_toneAt_91 : decode cX12_toneAt 91 = .ok (.iload 4, 2) := dqU kk_21 (by decide +kernel)
theorem dX12_toneAt_93 : decode cX12_toneAt 93 = .ok (.invokestatic 63, 3) := dqV kk_184 (by decide +kernel)
theorem dX12_toneAt_96 : decode cX12_toneAt 96 = .ok (.invokestatic 285, 3) := dqV kk_184 (by decide +kernel)
theorem tk_X12_orNeither : Cond.code yX12_orNeither cX12_orNeither 1 (some .int) ∈ TB := tbm (tc6 (List.mem_of_getElem? (i := 192) rfl)) rfl
theorem gc_X12_orNeither : GoodIn TB (cw yX12_orNeither cX12_orNeither 1 (some .int)) := goodIn_c2 tk_X12_orNeither
theorem tb_635 : Cond.methodLink "ToneLinesModel" 285 yX12_orNeither ∈ TB := tbm (tc6 (List.mem_of_getElem? (i := 190) rfl)) rfl
theorem tb_636 : Cond.static yX12_orNeither ∈ TB := tbm (tc6 (List.mem_of_getElem? (i := 191) rfl)) rfl
theorem gs_X12_285 : GoodIn TB (va_wsS RX12 285 yX12_orNeither (cw yX12_orNeither cX12_orNeither 1 (some .int))) := goodIn_3 tb_635 tb_636 tb_38 gc_X12_orNeither
theorem hs_X12_orNeither : yX12_orNeither.cls ≠ "java/lang/invoke/MethodHandle" ∧ yX12_orNeither.cls ≠ "java/lang/invoke/VarHandle" ∧ (parseMethodDescriptor yX12_orNeither.desc).map (fun d => d.parameters.length) = some 1 := by decide +kernel
theorem dX12_toneAt_99 : decode cX12_toneAt 99 = .ok (.ireturn, 1) := dq0 kk_172 (by decide +kernel)
theorem dX12_toneAt_100 : decode cX12_toneAt 100 = .ok (.iload 4, 2) := dqU kk_21 (by decide +kernel)
theorem dX12_toneAt_102 : decode cX12_toneAt 102 = .ok (.invokestatic 59, 3) := dqV kk_184 (by decide +kernel)
theorem dX12_toneAt_105 : decode cX12_toneAt 105 = .ok (.invokestatic 285, 3) := dqV kk_184 (by decide +kernel)
theorem dX12_toneAt_108 : decode cX12_toneAt 108 = .ok (.ireturn, 1) := dq0 kk_172 (by decide +kernel)
theorem dX12_toneAt_109 : decode cX12_toneAt 109 = .ok (.iload 4, 2) := dqU kk_21 (by decide +kernel)
theorem dX12_toneAt_111 : decode cX12_toneAt 111 = .ok (.invokestatic 76, 3) := dqV kk_184 (by decide +kernel)
theorem dX12_toneAt_114 : decode cX12_toneAt 114 = .ok (.ireturn, 1) := dq0 kk_172 (by decide +kernel)
theorem dX12_toneAt_115 : decode cX12_toneAt 115 = .ok (.iconst 3, 1) := dq0 kk_6 (by decide +kernel)
theorem dX12_toneAt_116 : decode cX12_toneAt 116 = .ok (.iconst 3, 1) := dq0 kk_6 (by decide +kernel)
theorem dX12_toneAt_117 : decode cX12_toneAt 117 = .ok (.iload 5, 2) := dqU kk_21 (by decide +kernel)
theorem dX12_toneAt_119 : decode cX12_toneAt 119 = .ok (.imul, 1) := dq0 kk_104 (by decide +kernel)
theorem dX12_toneAt_120 : decode cX12_toneAt 120 = .ok (.iadd, 1) := dq0 kk_96 (by decide +kernel)
theorem dX12_toneAt_121 : decode cX12_toneAt 121 = .ok (.aload_n 0, 1) := dq0 kk_42 (by decide +kernel)
theorem dX12_toneAt_122 : decode cX12_toneAt 122 = .ok (.iload_n 2, 1) := dq0 kk_28 (by decide +kernel)
theorem dX12_toneAt_123 : decode cX12_toneAt 123 = .ok (.invokevirtual 273, 3) := dqV kk_182 (by decide +kernel)
theorem dX12_toneAt_126 : decode cX12_toneAt 126 = .ok (.isub, 1) := dq0 kk_100 (by decide +kernel)
theorem dX12_toneAt_127 : decode cX12_toneAt 127 = .ok (.ireturn, 1) := dq0 kk_172 (by decide +kernel)
theorem dX12_toneAt_128 : decode cX12_toneAt 128 = .ok (.iconst (-1), 1) := dq0 kk_2 (by decide +kernel)
theorem dX12_toneAt_129 : decode cX12_toneAt 129 = .ok (.ireturn, 1) := dq0 kk_172 (by decide +kernel)
theorem dX12_toneAt_21 : decode cX12_toneAt 21 = .ok (.iload_n 3, 1) := dq0 kk_29 (by decide +kernel)
theorem dX12_toneAt_22 : decode cX12_toneAt 22 = .ok (.iconst 4, 1) := dq0 kk_7 (by decide +kernel)
theorem dX12_toneAt_23 : decode cX12_toneAt 23 = .ok (.if_icmp .ne 8, 3) := dqT kk_160 (by decide +kernel)
theorem dX12_toneAt_31 : decode cX12_toneAt 31 = .ok (.iconst (-1), 1) := dq0 kk_2 (by decide +kernel)
theorem dX12_toneAt_32 : decode cX12_toneAt 32 = .ok (.ireturn, 1) := dq0 kk_172 (by decide +kernel)
theorem dX12_toneAt_26 : decode cX12_toneAt 26 = .ok (.bipush (-100), 2) := dqS kk_16 (by decide +kernel)
theorem dX12_toneAt_28 : decode cX12_toneAt 28 = .ok (.goto 4, 3) := dqT kk_167 (by decide +kernel)
theorem dX12_toneAt_8 : decode cX12_toneAt 8 = .ok (.iconst (-1), 1) := dq0 kk_2 (by decide +kernel)
theorem dX12_toneAt_9 : decode cX12_toneAt 9 = .ok (.ireturn, 1) := dq0 kk_172 (by decide +kernel)
set_option maxRecDepth 4000 in
theorem q_X12_toneAt {l : Launch} {D : va_G} {B : Nat} {cy : Nat → ClassId} {M : Mem} {x : Int} (hx : (-2147483648) ≤ x ∧ x ≤ 2147483647) {t : Int} (ht : (-2147483648) ≤ t ∧ t ≤ 2147483647) {x1 : Int} (hx1 : (-2147483648) ≤ x1 ∧ x1 ≤ 2147483647) (hI : IvR M) : Ci l D B cy yX12_toneAt cX12_toneAt 6 (some .int) 10 233 [.ref (B + 146), .int (zI x), .int (zI t), .int (zI x1)] M (fun r M1 => ∃ z : Int, r = zI z ∧ ((-2147483648) ≤ z ∧ z ≤ 2147483647) ∧ IvR M1 ∧ Fr (fun b9 k9 => (b9 = 146 ∧ k9 = 3) ∨ (b9 = 146 ∧ k9 = 6) ∨ b9 = 148) M1 M) := by
  refine s_anyQ (by decide) (Nat.le_of_ble_eq_true rfl) ?_
  intro p e s m args below meth c ls Q F hr hlocks hQ w hl
  have F : CallFix p m c cX12_toneAt 6 s args TB RX12 := F
  have hx := F.1
  have hb := F.2.1
  have hl : lv_has ls 6 [(0, .ref (B + 146)), (1, .int (zI x)), (2, .int (zI t)), (3, .int (zI x1))] := hl
  have hF : Fr (fun b9 k9 => (b9 = 146 ∧ k9 = 3) ∨ (b9 = 146 ∧ k9 = 6) ∨ b9 = 148) M M := Fr.rf
  refine lv_aload_n hx hb dX12_toneAt_0 rfl (lv_at hl 0 rfl) ?_
  refine lv_iload_n hx hb dX12_toneAt_1 rfl (lv_at hl 1 rfl) ?_
  refine k_Vi F w (As := [.int (zI x)]) (rest := []) (a := 146) (kd_lt (a := 146) (show kd 146 = (12, 0, 0) from rfl) (by decide)) (sh_12 rfl _ _) rfl (q_X12_lays (x := x) ⟨by omega, by omega⟩  hI) gv_X12_261 hv_X12_lays ⟨(Nat.le_of_ble_eq_true rfl), (Nat.le_of_ble_eq_true rfl)⟩ hl.1 rfl (Nat.le_of_ble_eq_true rfl) ⟨Nat.zero_le _, Nat.zero_le _⟩ dX12_toneAt_2 (fun r1 N2 H locs hp w => ?_)
  obtain ⟨z3, rfl, bz3, hIN2, hFN2⟩ := hp
  have hGN2 := Fr.tr hF hFN2 (S := (fun b9 k9 => (b9 = 146 ∧ k9 = 3) ∨ (b9 = 146 ∧ k9 = 6) ∨ b9 = 148)) (fun b k h => by (try dsimp only at h ⊢); rcases h with ⟨rfl, rfl⟩ | ⟨rfl, rfl⟩ | rfl <;> first | decide | omega)
  refine z_if_ne (tgt := 10) hx hb (by omega) dX12_toneAt_5 (by decide) (fun c4 => ?_) (fun c4 => ?_)
  · refine lv_aload_n hx hb dX12_toneAt_10 rfl (lv_at hl 0 rfl) ?_
    refine f_12_2 F w (a := 146) rfl tb_45 dX12_toneAt_11 ?_
    refine lv_iload_n hx hb dX12_toneAt_14 rfl (lv_at hl 2 rfl) ?_
    obtain ⟨z5, bz5, ez5⟩ := IvR.ld (k := 0) hIN2 (show ivr 148 0 = (0, 12) from rfl) (show 146 ≤ 148 ∧ 148 < 159 by decide)
    refine k_Si F w (As := [.ref (B + 148), .int (zI t)]) (rest := []) (q_X12_isTone_148 (t := t) ⟨by omega, by omega⟩ (nn := z5) (ez5) ⟨by omega, by omega⟩  hIN2) gs_X12_105 hs_X12_isTone ⟨(Nat.le_of_ble_eq_true rfl), (Nat.le_of_ble_eq_true rfl)⟩ hl.1 rfl (Nat.le_of_ble_eq_true rfl) ⟨Nat.zero_le _, Nat.zero_le _⟩ dX12_toneAt_15 (fun r6 N7 H locs hp w => ?_)
    obtain ⟨z8, rfl, bz8, xz8, hMN7⟩ := hp
    rw [hMN7] at w
    refine z_if_ne (tgt := 33) hx hb (by omega) dX12_toneAt_18 (by decide) (fun c9 => ?_) (fun c9 => ?_)
    · refine lv_aload_n hx hb dX12_toneAt_33 rfl (lv_at hl 0 rfl) ?_
      refine f_12_2 F w (a := 146) rfl tb_45 dX12_toneAt_34 ?_
      refine lv_bipush (v := zI 13) hx hb dX12_toneAt_37 (by decide) ?_
      refine lv_iload_n hx hb dX12_toneAt_39 rfl (lv_at hl 2 rfl) ?_
      refine z_iadd (z := (t + 13)) hx hb dX12_toneAt_40 (by omega) ?_
      refine g_iald F w (a := 148) rfl (j := (13 + Int.toNat t)) (ix_l (t := t) (by omega) (by omega)) (by omega) dX12_toneAt_41 ?_
      obtain ⟨z10, bz10, ez10⟩ := IvR.ld (k := (13 + Int.toNat t)) hIN2 (wiv_l (a := 148) (k := (13 + Int.toNat t)) (by omega) (by omega)) (show 146 ≤ 148 ∧ 148 < 159 by decide)
      refine r_val ez10 ?_
      refine lv_istore (lv' := [(4, .int (zI z10)), (0, .ref (B + 146)), (1, .int (zI x)), (2, .int (zI t)), (3, .int (zI x1))]) hx hb dX12_toneAt_42 hl (by decide) rfl (fun ls hl => ?_)
      refine lv_aload_n hx hb dX12_toneAt_44 rfl (lv_at hl 1 rfl) ?_
      refine f_12_2 F w (a := 146) rfl tb_45 dX12_toneAt_45 ?_
      refine lv_iconst (v := zI 1) hx hb dX12_toneAt_48 rfl ?_
      refine lv_iload_n hx hb dX12_toneAt_49 rfl (lv_at hl 3 rfl) ?_
      refine z_iadd (z := (t + 1)) hx hb dX12_toneAt_50 (by omega) ?_
      refine g_iald F w (a := 148) rfl (j := (Int.toNat (t + 1))) (ix_z (by omega) (by omega)) (by omega) dX12_toneAt_51 ?_
      obtain ⟨z11, bz11, ez11⟩ := IvR.ld (k := (Int.toNat (t + 1))) hIN2 (wiv_k (a := 148) (k := (Int.toNat (t + 1))) (by omega) (by omega)) (show 146 ≤ 148 ∧ 148 < 159 by decide)
      refine r_val ez11 ?_
      refine lv_istore (lv' := [(5, .int (zI z11)), (4, .int (zI z10)), (0, .ref (B + 146)), (1, .int (zI x)), (2, .int (zI t)), (3, .int (zI x1))]) hx hb dX12_toneAt_52 hl (by decide) rfl (fun ls hl => ?_)
      refine lv_iload_n hx hb dX12_toneAt_54 rfl (lv_at hl 5 rfl) ?_
      rcases (show x1 = 0 ∨ x1 = 1 ∨ x1 = 2 ∨ x1 = 3 ∨ x1 = 4 ∨ (x1 ≠ 0 ∧ x1 ≠ 1 ∧ x1 ≠ 2 ∧ x1 ≠ 3 ∧ x1 ≠ 4) by omega) with c12 | c12 | c12 | c12 | c12 | c12
      · refine r_val (v := zI 0) (congrArg zI c12) ?_
        refine lv_tableIn (tgt := 88) hx hb dX12_toneAt_55 (by decide) (by decide) (off := 33) rfl (by decide) ?_
        refine lv_iload hx hb dX12_toneAt_88 (lv_at hl 0 rfl) ?_
        rw [hQ]
        exact e_i F w hr hlocks ⟨_, rfl, ⟨by omega, by omega⟩, hIN2, hGN2⟩ dX12_toneAt_90
      · refine r_val (v := zI 1) (congrArg zI c12) ?_
        refine lv_tableIn (tgt := 91) hx hb dX12_toneAt_55 (by decide) (by decide) (off := 36) rfl (by decide) ?_
        refine lv_iload hx hb dX12_toneAt_91 (lv_at hl 1 rfl) ?_
        refine k_Si F w (As := [.int (zI z10)]) (rest := []) (q_firstOf (x := z10) ⟨by omega, by omega⟩ ) gs_X12_63 hs_X12_firstOf ⟨(Nat.le_of_ble_eq_true rfl), (Nat.le_of_ble_eq_true rfl)⟩ hl.1 rfl (Nat.le_of_ble_eq_true rfl) ⟨Nat.zero_le _, Nat.zero_le _⟩ dX12_toneAt_93 (fun r13 N14 H locs hp w => ?_)
        obtain ⟨hrz15, hMz15⟩ := hp
        rw [hMz15] at w
        obtain ⟨z15, bz15, xz15, xcz15, ez15⟩ := low2_ex z10 (by omega)
        refine r_val (hrz15.trans ez15) ?_
        refine k_Si F w (As := [.int (zI z15)]) (rest := []) (q_X12_orNeither (x := z15) ⟨by omega, by omega⟩  hIN2) gs_X12_285 hs_X12_orNeither ⟨(Nat.le_of_ble_eq_true rfl), (Nat.le_of_ble_eq_true rfl)⟩ hl.1 rfl (Nat.le_of_ble_eq_true rfl) ⟨Nat.zero_le _, Nat.zero_le _⟩ dX12_toneAt_96 (fun r16 N17 H locs hp w => ?_)
        obtain ⟨z18, rfl, bz18, hMN17⟩ := hp
        rw [hMN17] at w
        rw [hQ]
        exact e_i F w hr hlocks ⟨_, rfl, ⟨by omega, by omega⟩, hIN2, hGN2⟩ dX12_toneAt_99
      · refine r_val (v := zI 2) (congrArg zI c12) ?_
        refine lv_tableIn (tgt := 100) hx hb dX12_toneAt_55 (by decide) (by decide) (off := 45) rfl (by decide) ?_
        refine lv_iload hx hb dX12_toneAt_100 (lv_at hl 1 rfl) ?_
        refine k_Si F w (As := [.int (zI z10)]) (rest := []) (q_lastOf (x := z10) ⟨by omega, by omega⟩ ) gs_X12_59 hs_X12_lastOf ⟨(Nat.le_of_ble_eq_true rfl), (Nat.le_of_ble_eq_true rfl)⟩ hl.1 rfl (Nat.le_of_ble_eq_true rfl) ⟨Nat.zero_le _, Nat.zero_le _⟩ dX12_toneAt_102 (fun r19 N20 H locs hp w => ?_)
        obtain ⟨hrz21, hMz21⟩ := hp
        rw [hMz21] at w
        obtain ⟨z21, bz21, xz21, xcz21, ez21⟩ := hig2_ex z10 (by omega)
        refine r_val (hrz21.trans ez21) ?_
        refine k_Si F w (As := [.int (zI z21)]) (rest := []) (q_X12_orNeither (x := z21) ⟨by omega, by omega⟩  hIN2) gs_X12_285 hs_X12_orNeither ⟨(Nat.le_of_ble_eq_true rfl), (Nat.le_of_ble_eq_true rfl)⟩ hl.1 rfl (Nat.le_of_ble_eq_true rfl) ⟨Nat.zero_le _, Nat.zero_le _⟩ dX12_toneAt_105 (fun r22 N23 H locs hp w => ?_)
        obtain ⟨z24, rfl, bz24, hMN23⟩ := hp
        rw [hMN23] at w
        rw [hQ]
        exact e_i F w hr hlocks ⟨_, rfl, ⟨by omega, by omega⟩, hIN2, hGN2⟩ dX12_toneAt_108
      · refine r_val (v := zI 3) (congrArg zI c12) ?_
        refine lv_tableIn (tgt := 109) hx hb dX12_toneAt_55 (by decide) (by decide) (off := 54) rfl (by decide) ?_
        refine lv_iload hx hb dX12_toneAt_109 (lv_at hl 1 rfl) ?_
        refine k_Si F w (As := [.int (zI z10)]) (rest := []) (q_bitsOf (x := z10) ⟨by omega, by omega⟩ ) gs_X12_76 hs_X12_bitsOf ⟨(Nat.le_of_ble_eq_true rfl), (Nat.le_of_ble_eq_true rfl)⟩ hl.1 rfl (Nat.le_of_ble_eq_true rfl) ⟨Nat.zero_le _, Nat.zero_le _⟩ dX12_toneAt_111 (fun r25 N26 H locs hp w => ?_)
        obtain ⟨hrz27, hMz27⟩ := hp
        rw [hMz27] at w
        obtain ⟨z27, bz27, xz27, ez27⟩ := pop2_ex z10 (by omega)
        refine r_val (hrz27.trans ez27) ?_
        rw [hQ]
        exact e_i F w hr hlocks ⟨_, rfl, ⟨by omega, by omega⟩, hIN2, hGN2⟩ dX12_toneAt_114
      · refine r_val (v := zI 4) (congrArg zI c12) ?_
        refine lv_tableIn (tgt := 115) hx hb dX12_toneAt_55 (by decide) (by decide) (off := 60) rfl (by decide) ?_
        refine lv_iconst (v := zI 3) hx hb dX12_toneAt_115 rfl ?_
        refine lv_iconst (v := zI 3) hx hb dX12_toneAt_116 rfl ?_
        refine lv_iload hx hb dX12_toneAt_117 (lv_at hl 0 rfl) ?_
        refine z_imul (z := (3 * z11)) hx hb dX12_toneAt_119 (by omega) ?_
        refine z_iadd (z := ((3 * z11) + 3)) hx hb dX12_toneAt_120 (by omega) ?_
        refine lv_aload_n hx hb dX12_toneAt_121 rfl (lv_at hl 2 rfl) ?_
        refine lv_iload_n hx hb dX12_toneAt_122 rfl (lv_at hl 4 rfl) ?_
        refine k_Vi F w (As := [.int (zI t)]) (rest := [.int (zI ((3 * z11) + 3))]) (a := 146) (kd_lt (a := 146) (show kd 146 = (12, 0, 0) from rfl) (by decide)) (sh_12 rfl _ _) rfl (q_X12_fallsTo (t := t) ⟨by omega, by omega⟩  hIN2) gv_X12_273 hv_X12_fallsTo ⟨(Nat.le_of_ble_eq_true rfl), (Nat.le_of_ble_eq_true rfl)⟩ hl.1 rfl (Nat.le_of_ble_eq_true rfl) ⟨Nat.zero_le _, Nat.zero_le _⟩ dX12_toneAt_123 (fun r28 N29 H locs hp w => ?_)
        obtain ⟨z30, rfl, bz30, hMN29⟩ := hp
        rw [hMN29] at w
        obtain ⟨z31, bz31, x0z31, ez31⟩ := sub_ex ((3 * z11) + 3) z30
        refine lv_isub hx hb dX12_toneAt_126 ?_
        refine r_val ez31 ?_
        rw [hQ]
        exact e_i F w hr hlocks ⟨_, rfl, ⟨by omega, by omega⟩, hIN2, hGN2⟩ dX12_toneAt_127
      · refine lv_tableOut (tgt := 128) hx hb dX12_toneAt_55 (by rw [zI_toInt (by omega)]; omega) (by decide) ?_
        refine lv_iconst (v := zI (-1)) hx hb dX12_toneAt_128 rfl ?_
        rw [hQ]
        exact e_i F w hr hlocks ⟨_, rfl, ⟨by omega, by omega⟩, hIN2, hGN2⟩ dX12_toneAt_129
    · refine lv_iload_n hx hb dX12_toneAt_21 rfl (lv_at hl 3 rfl) ?_
      refine lv_iconst (v := zI 4) hx hb dX12_toneAt_22 rfl ?_
      refine z_icmp_ne (tgt := 31) hx hb (by omega) (by omega) dX12_toneAt_23 (by decide) (fun c32 => ?_) (fun c32 => ?_)
      · refine lv_iconst (v := zI (-1)) hx hb dX12_toneAt_31 rfl ?_
        rw [hQ]
        exact e_i F w hr hlocks ⟨_, rfl, ⟨by omega, by omega⟩, hIN2, hGN2⟩ dX12_toneAt_32
      · refine lv_bipush (v := zI (-100)) hx hb dX12_toneAt_26 (by decide) ?_
        refine lv_goto (tgt := 32) hx hb dX12_toneAt_28 (by decide) ?_
        rw [hQ]
        exact e_i F w hr hlocks ⟨_, rfl, ⟨by omega, by omega⟩, hIN2, hGN2⟩ dX12_toneAt_32
  · refine lv_iconst (v := zI (-1)) hx hb dX12_toneAt_8 rfl ?_
    rw [hQ]
    exact e_i F w hr hlocks ⟨_, rfl, ⟨by omega, by omega⟩, hIN2, hGN2⟩ dX12_toneAt_9
theorem dX12_reading_0 : decode cX12_reading 0 = .ok (.iconst 0, 1) := dq0 kk_3 (by decide +kernel)
theorem dX12_reading_1 : decode cX12_reading 1 = .ok (.istore_n 2, 1) := dq0 kk_61 (by decide +kernel)
theorem dX12_reading_2 : decode cX12_reading 2 = .ok (.iconst 1, 1) := dq0 kk_4 (by decide +kernel)
theorem dX12_reading_3 : decode cX12_reading 3 = .ok (.istore_n 3, 1) := dq0 kk_62 (by decide +kernel)
theorem dX12_reading_4 : decode cX12_reading 4 = .ok (.iconst 0, 1) := dq0 kk_3 (by decide +kernel)
theorem dX12_reading_5 : decode cX12_reading 5 = .ok (.istore 4, 2) := dqU kk_54 (by decide +kernel)
theorem dX12_reading_7 : decode cX12_reading 7 = .ok (.iload 4, 2) := dqU kk_21 (by decide +kernel)
theorem dX12_reading_9 : decode cX12_reading 9 = .ok (.aload_n 0, 1) := dq0 kk_42 (by decide +kernel)
theorem dX12_reading_10 : decode cX12_reading 10 = .ok (.getfield 17, 3) := dqV kk_180 (by decide +kernel)
theorem dX12_reading_13 : decode cX12_reading 13 = .ok (.iconst 0, 1) := dq0 kk_3 (by decide +kernel)
theorem dX12_reading_14 : decode cX12_reading 14 = .ok (.iaload, 1) := dq0 kk_46 (by decide +kernel)
theorem dX12_reading_15 : decode cX12_reading 15 = .ok (.if_icmp .ge 49, 3) := dqT kk_162 (by decide +kernel)
theorem dX12_reading_64 : decode cX12_reading 64 = .ok (.iload_n 2, 1) := dq0 kk_28 (by decide +kernel)
theorem dX12_reading_65 : decode cX12_reading 65 = .ok (.ireturn, 1) := dq0 kk_172 (by decide +kernel)
theorem dX12_reading_18 : decode cX12_reading 18 = .ok (.aload_n 0, 1) := dq0 kk_42 (by decide +kernel)
theorem dX12_reading_19 : decode cX12_reading 19 = .ok (.getfield 17, 3) := dqV kk_180 (by decide +kernel)
theorem dX12_reading_22 : decode cX12_reading 22 = .ok (.bipush 13, 2) := dqS kk_16 (by decide +kernel)
theorem dX12_reading_24 : decode cX12_reading 24 = .ok (.iload 4, 2) := dqU kk_21 (by decide +kernel)
theorem dX12_reading_26 : decode cX12_reading 26 = .ok (.iadd, 1) := dq0 kk_96 (by decide +kernel)
theorem dX12_reading_27 : decode cX12_reading 27 = .ok (.iaload, 1) := dq0 kk_46 (by decide +kernel)
theorem dX12_reading_28 : decode cX12_reading 28 = .ok (.iload_n 1, 1) := dq0 kk_27 (by decide +kernel)
theorem dX12_reading_29 : decode cX12_reading 29 = .ok (.invokestatic 51, 3) := dqV kk_184 (by decide +kernel)
theorem dX12_reading_32 : decode cX12_reading 32 = .ok (.ifCond .ne 6, 3) := dqT kk_154 (by decide +kernel)
theorem dX12_reading_38 : decode cX12_reading 38 = .ok (.iload_n 2, 1) := dq0 kk_28 (by decide +kernel)
theorem dX12_reading_39 : decode cX12_reading 39 = .ok (.iload_n 3, 1) := dq0 kk_29 (by decide +kernel)
theorem dX12_reading_40 : decode cX12_reading 40 = .ok (.aload_n 0, 1) := dq0 kk_42 (by decide +kernel)
theorem dX12_reading_41 : decode cX12_reading 41 = .ok (.getfield 17, 3) := dqV kk_180 (by decide +kernel)
theorem dX12_reading_44 : decode cX12_reading 44 = .ok (.iconst 1, 1) := dq0 kk_4 (by decide +kernel)
theorem dX12_reading_45 : decode cX12_reading 45 = .ok (.iload 4, 2) := dqU kk_21 (by decide +kernel)
theorem dX12_reading_47 : decode cX12_reading 47 = .ok (.iadd, 1) := dq0 kk_96 (by decide +kernel)
theorem dX12_reading_48 : decode cX12_reading 48 = .ok (.iaload, 1) := dq0 kk_46 (by decide +kernel)
theorem dX12_reading_49 : decode cX12_reading 49 = .ok (.iconst 1, 1) := dq0 kk_4 (by decide +kernel)
theorem dX12_reading_50 : decode cX12_reading 50 = .ok (.iadd, 1) := dq0 kk_96 (by decide +kernel)
theorem dX12_reading_51 : decode cX12_reading 51 = .ok (.imul, 1) := dq0 kk_104 (by decide +kernel)
theorem dX12_reading_52 : decode cX12_reading 52 = .ok (.iadd, 1) := dq0 kk_96 (by decide +kernel)
theorem dX12_reading_53 : decode cX12_reading 53 = .ok (.istore_n 2, 1) := dq0 kk_61 (by decide +kernel)
theorem dX12_reading_54 : decode cX12_reading 54 = .ok (.iload_n 3, 1) := dq0 kk_29 (by decide +kernel)
theorem dX12_reading_55 : decode cX12_reading 55 = .ok (.iconst 4, 1) := dq0 kk_7 (by decide +kernel)
theorem dX12_reading_56 : decode cX12_reading 56 = .ok (.imul, 1) := dq0 kk_104 (by decide +kernel)
theorem dX12_reading_57 : decode cX12_reading 57 = .ok (.istore_n 3, 1) := dq0 kk_62 (by decide +kernel)
theorem dX12_reading_58 : decode cX12_reading 58 = .ok (.iinc 4 1, 3) := dqI kk_132 (by decide +kernel)
theorem dX12_reading_61 : decode cX12_reading 61 = .ok (.goto (-54), 3) := dqT kk_167 (by decide +kernel)
theorem dX12_reading_35 : decode cX12_reading 35 = .ok (.goto 23, 3) := dqT kk_167 (by decide +kernel)
set_option maxRecDepth 4000 in
theorem q_X12_reading {l : Launch} {D : va_G} {B : Nat} {cy : Nat → ClassId} {M : Mem} {y : Int} (hy : 0 ≤ y ∧ y ≤ 11) (hI : IvR M) : Ci l D B cy yX12_reading cX12_reading 5 (some .int) 1 21 [.ref (B + 146), .int (zI y)] M (fun r M1 => ∃ z : Int, r = zI z ∧ ((-2147483648) ≤ z ∧ z ≤ 2147483647) ∧ M1 = M) := by
  refine s_anyQ (by decide) (Nat.le_of_ble_eq_true rfl) ?_
  intro p e s m args below meth c ls Q F hr hlocks hQ w hl
  have F : CallFix p m c cX12_reading 5 s args TB RX12 := F
  have hx := F.1
  have hb := F.2.1
  have hl : lv_has ls 5 [(0, .ref (B + 146)), (1, .int (zI y))] := hl
  refine lv_iconst (v := zI 0) hx hb dX12_reading_0 rfl ?_
  refine lv_istore_n (lv' := [(2, .int (zI 0)), (0, .ref (B + 146)), (1, .int (zI y))]) hx hb dX12_reading_1 rfl hl (by decide) rfl (fun ls hl => ?_)
  refine lv_iconst (v := zI 1) hx hb dX12_reading_2 rfl ?_
  refine lv_istore_n (lv' := [(3, .int (zI 1)), (2, .int (zI 0)), (0, .ref (B + 146)), (1, .int (zI y))]) hx hb dX12_reading_3 rfl hl (by decide) rfl (fun ls hl => ?_)
  refine lv_iconst (v := zI 0) hx hb dX12_reading_4 rfl ?_
  refine lv_istore (lv' := [(4, .int (zI 0)), (3, .int (zI 1)), (2, .int (zI 0)), (0, .ref (B + 146)), (1, .int (zI y))]) hx hb dX12_reading_5 hl (by decide) rfl (fun ls hl => ?_)
  have lp7 : ∀ (f : Nat) (v4_7 : Int) (v3_7 : Int) (v2_7 : Int), (0 ≤ v4_7 ∧ v4_7 ≤ 12) → ((-2147483648) ≤ v3_7 ∧ v3_7 ≤ 2147483647) → ((-2147483648) ≤ v2_7 ∧ v2_7 ≤ 2147483647) → (Int.toNat (12 - v4_7) < f) → ∀ (H : Heap) (locs : List Loc) (ls : Array Slot), Wd D B cy s s.heap M H locs → lv_has ls 5 [(4, .int (zI v4_7)), (3, .int (zI v3_7)), (2, .int (zI v2_7)), (0, .ref (B + 146)), (1, .int (zI y))] → W p l e (rmm 1 21) s m args below meth c H locs 0 0 Q (F0 m 7 ls []) := by
    intro f
    induction f with
    | zero => intros; omega
    | succ f ih7 =>
      intro v4_7 v3_7 v2_7  iv4_7 iv3_7 iv2_7 hf7 H locs ls w hl
      refine lv_iload hx hb dX12_reading_7 (lv_at hl 0 rfl) ?_
      refine lv_aload_n hx hb dX12_reading_9 rfl (lv_at hl 3 rfl) ?_
      refine f_12_2 F w (a := 146) rfl tb_45 dX12_reading_10 ?_
      refine lv_iconst (v := zI 0) hx hb dX12_reading_13 rfl ?_
      refine g_iald F w (a := 148) rfl (j := 0) ⟨by decide, by decide⟩ (by omega) dX12_reading_14 ?_
      obtain ⟨z1, bz1, ez1⟩ := IvR.ld (k := 0) hI (show ivr 148 0 = (0, 12) from rfl) (show 146 ≤ 148 ∧ 148 < 159 by decide)
      refine r_val ez1 ?_
      refine z_icmp_ge (tgt := 64) hx hb (by omega) (by omega) dX12_reading_15 (by decide) (fun c2 => ?_) (fun c2 => ?_)
      · refine lv_iload_n hx hb dX12_reading_64 rfl (lv_at hl 2 rfl) ?_
        rw [hQ]
        exact e_i F w hr hlocks ⟨_, rfl, ⟨by omega, by omega⟩, rfl⟩ dX12_reading_65
      · refine lv_aload_n hx hb dX12_reading_18 rfl (lv_at hl 3 rfl) ?_
        refine f_12_2 F w (a := 146) rfl tb_45 dX12_reading_19 ?_
        refine lv_bipush (v := zI 13) hx hb dX12_reading_22 (by decide) ?_
        refine lv_iload hx hb dX12_reading_24 (lv_at hl 0 rfl) ?_
        refine z_iadd (z := (v4_7 + 13)) hx hb dX12_reading_26 (by omega) ?_
        refine g_iald F w (a := 148) rfl (j := (13 + Int.toNat v4_7)) (ix_l (t := v4_7) (by omega) (by omega)) (by omega) dX12_reading_27 ?_
        obtain ⟨z3, bz3, ez3⟩ := IvR.ld (k := (13 + Int.toNat v4_7)) hI (wiv_l (a := 148) (k := (13 + Int.toNat v4_7)) (by omega) (by omega)) (show 146 ≤ 148 ∧ 148 < 159 by decide)
        refine r_val ez3 ?_
        refine lv_iload_n hx hb dX12_reading_28 rfl (lv_at hl 4 rfl) ?_
        refine k_Si F w (As := [.int (zI z3), .int (zI y)]) (rest := []) (q_X12_isIn (x := z3) ⟨by omega, by omega⟩ (x1 := y) ⟨by omega, by omega⟩  hI) gs_X12_51 hs_X12_isIn ⟨(Nat.le_of_ble_eq_true rfl), (Nat.le_of_ble_eq_true rfl)⟩ hl.1 rfl (Nat.le_of_ble_eq_true rfl) ⟨Nat.zero_le _, Nat.zero_le _⟩ dX12_reading_29 (fun r4 N5 H locs hp w => ?_)
        obtain ⟨z6, rfl, bz6, hMN5⟩ := hp
        rw [hMN5] at w
        refine z_if_ne (tgt := 38) hx hb (by omega) dX12_reading_32 (by decide) (fun c7 => ?_) (fun c7 => ?_)
        · refine lv_iload_n hx hb dX12_reading_38 rfl (lv_at hl 2 rfl) ?_
          refine lv_iload_n hx hb dX12_reading_39 rfl (lv_at hl 1 rfl) ?_
          refine lv_aload_n hx hb dX12_reading_40 rfl (lv_at hl 3 rfl) ?_
          refine f_12_2 F w (a := 146) rfl tb_45 dX12_reading_41 ?_
          refine lv_iconst (v := zI 1) hx hb dX12_reading_44 rfl ?_
          refine lv_iload hx hb dX12_reading_45 (lv_at hl 0 rfl) ?_
          refine z_iadd (z := (v4_7 + 1)) hx hb dX12_reading_47 (by omega) ?_
          refine g_iald F w (a := 148) rfl (j := (Int.toNat (v4_7 + 1))) (ix_z (by omega) (by omega)) (by omega) dX12_reading_48 ?_
          obtain ⟨z8, bz8, ez8⟩ := IvR.ld (k := (Int.toNat (v4_7 + 1))) hI (wiv_k (a := 148) (k := (Int.toNat (v4_7 + 1))) (by omega) (by omega)) (show 146 ≤ 148 ∧ 148 < 159 by decide)
          refine r_val ez8 ?_
          refine lv_iconst (v := zI 1) hx hb dX12_reading_49 rfl ?_
          refine z_iadd (z := (z8 + 1)) hx hb dX12_reading_50 (by omega) ?_
          refine lv_imul hx hb dX12_reading_51 ?_
          refine lv_topi (fun u9 eu9 => ?_)
          obtain ⟨z10, bz10, rfl⟩ := rg_ex u9
          obtain ⟨z11, bz11, x0z11, ez11⟩ := add_ex v2_7 z10
          refine lv_iadd hx hb dX12_reading_52 ?_
          refine r_val ez11 ?_
          refine lv_istore_n (lv' := [(2, .int (zI z11)), (4, .int (zI v4_7)), (3, .int (zI v3_7)), (0, .ref (B + 146)), (1, .int (zI y))]) hx hb dX12_reading_53 rfl hl (by decide) rfl (fun ls hl => ?_)
          refine lv_iload_n hx hb dX12_reading_54 rfl (lv_at hl 2 rfl) ?_
          refine lv_iconst (v := zI 4) hx hb dX12_reading_55 rfl ?_
          refine lv_imul hx hb dX12_reading_56 ?_
          refine lv_topi (fun u12 eu12 => ?_)
          obtain ⟨z13, bz13, rfl⟩ := rg_ex u12
          refine lv_istore_n (lv' := [(3, .int (zI z13)), (2, .int (zI z11)), (4, .int (zI v4_7)), (0, .ref (B + 146)), (1, .int (zI y))]) hx hb dX12_reading_57 rfl hl (by decide) rfl (fun ls hl => ?_)
          refine z_iinc (v := (v4_7 + 1)) (lv' := [(4, .int (zI (v4_7 + 1))), (3, .int (zI z13)), (2, .int (zI z11)), (0, .ref (B + 146)), (1, .int (zI y))]) hx hb dX12_reading_58 hl (k := 2) rfl (by omega) (by decide) rfl (fun ls hl => ?_)
          refine lv_goto (tgt := 7) hx hb dX12_reading_61 (by decide) ?_
          exact ih7 (v4_7 + 1) z13 z11 (by omega) (by omega) (by omega)     (by omega) _ _ _ w (lv_sub hl [0, 1, 2, 3, 4] rfl)
        · refine lv_goto (tgt := 58) hx hb dX12_reading_35 (by decide) ?_
          refine z_iinc (v := (v4_7 + 1)) (lv' := [(4, .int (zI (v4_7 + 1))), (3, .int (zI v3_7)), (2, .int (zI v2_7)), (0, .ref (B + 146)), (1, .int (zI y))]) hx hb dX12_reading_58 hl (k := 0) rfl (by omega) (by decide) rfl (fun ls hl => ?_)
          refine lv_goto (tgt := 7) hx hb dX12_reading_61 (by decide) ?_
          exact ih7 (v4_7 + 1) v3_7 v2_7 (by omega) (by omega) (by omega)     (by omega) _ _ _ w (lv_sub hl [0, 1, 2, 3, 4] rfl)
  exact lp7 _ 0 1 0 (by omega) (by omega) (by omega) (Nat.lt_succ_self _) _ _ _ w (lv_sub hl [0, 1, 2, 3, 4] rfl)
theorem dX12_syllableAt_0 : decode cX12_syllableAt 0 = .ok (.aload_n 0, 1) := dq0 kk_42 (by decide +kernel)
theorem dX12_syllableAt_1 : decode cX12_syllableAt 1 = .ok (.iload_n 1, 1) := dq0 kk_27 (by decide +kernel)
theorem dX12_syllableAt_2 : decode cX12_syllableAt 2 = .ok (.invokevirtual 261, 3) := dqV kk_182 (by decide +kernel)
theorem dX12_syllableAt_5 : decode cX12_syllableAt 5 = .ok (.ifCond .eq 14, 3) := dqT kk_153 (by decide +kernel)
theorem dX12_syllableAt_19 : decode cX12_syllableAt 19 = .ok (.iconst (-1), 1) := dq0 kk_2 (by decide +kernel)
theorem dX12_syllableAt_20 : decode cX12_syllableAt 20 = .ok (.ireturn, 1) := dq0 kk_172 (by decide +kernel)
theorem dX12_syllableAt_8 : decode cX12_syllableAt 8 = .ok (.aload_n 0, 1) := dq0 kk_42 (by decide +kernel)
theorem dX12_syllableAt_9 : decode cX12_syllableAt 9 = .ok (.getfield 17, 3) := dqV kk_180 (by decide +kernel)
theorem dX12_syllableAt_12 : decode cX12_syllableAt 12 = .ok (.iload_n 2, 1) := dq0 kk_28 (by decide +kernel)
theorem dX12_syllableAt_13 : decode cX12_syllableAt 13 = .ok (.invokestatic 94, 3) := dqV kk_184 (by decide +kernel)
theorem dX12_syllableAt_16 : decode cX12_syllableAt 16 = .ok (.ifCond .ne 5, 3) := dqT kk_154 (by decide +kernel)
theorem dX12_syllableAt_21 : decode cX12_syllableAt 21 = .ok (.aload_n 0, 1) := dq0 kk_42 (by decide +kernel)
theorem dX12_syllableAt_22 : decode cX12_syllableAt 22 = .ok (.getfield 17, 3) := dqV kk_180 (by decide +kernel)
theorem dX12_syllableAt_25 : decode cX12_syllableAt 25 = .ok (.iload_n 2, 1) := dq0 kk_28 (by decide +kernel)
theorem dX12_syllableAt_26 : decode cX12_syllableAt 26 = .ok (.invokestatic 69, 3) := dqV kk_184 (by decide +kernel)
theorem dX12_syllableAt_29 : decode cX12_syllableAt 29 = .ok (.istore 4, 2) := dqU kk_54 (by decide +kernel)
theorem dX12_syllableAt_31 : decode cX12_syllableAt 31 = .ok (.iload_n 3, 1) := dq0 kk_29 (by decide +kernel)
theorem dX12_syllableAt_32 : decode cX12_syllableAt 32 = .ok (.tableswitch 110 0 5 #[40, 60, 80, 86, 95, 104], 40) := by decide +kernel
theorem dX12_syllableAt_72 : decode cX12_syllableAt 72 = .ok (.aload_n 0, 1) := dq0 kk_42 (by decide +kernel)
theorem dX12_syllableAt_73 : decode cX12_syllableAt 73 = .ok (.getfield 17, 3) := dqV kk_180 (by decide +kernel)
theorem dX12_syllableAt_76 : decode cX12_syllableAt 76 = .ok (.bipush 26, 2) := dqS kk_16 (by decide +kernel)
theorem dX12_syllableAt_78 : decode cX12_syllableAt 78 = .ok (.iaload, 1) := dq0 kk_46 (by decide +kernel)
theorem dX12_syllableAt_79 : decode cX12_syllableAt 79 = .ok (.iload_n 2, 1) := dq0 kk_28 (by decide +kernel)
theorem dX12_syllableAt_80 : decode cX12_syllableAt 80 = .ok (.invokestatic 51, 3) := dqV kk_184 (by decide +kernel)
theorem dX12_syllableAt_83 : decode cX12_syllableAt 83 = .ok (.ifCond .eq 7, 3) := dqT kk_153 (by decide +kernel)
theorem dX12_syllableAt_90 : decode cX12_syllableAt 90 = .ok (.iconst 0, 1) := dq0 kk_3 (by decide +kernel)
theorem dX12_syllableAt_91 : decode cX12_syllableAt 91 = .ok (.ireturn, 1) := dq0 kk_172 (by decide +kernel)
theorem dX12_syllableAt_86 : decode cX12_syllableAt 86 = .ok (.iconst 1, 1) := dq0 kk_4 (by decide +kernel)
theorem dX12_syllableAt_87 : decode cX12_syllableAt 87 = .ok (.goto 4, 3) := dqT kk_167 (by decide +kernel)
theorem dX12_syllableAt_92 : decode cX12_syllableAt 92 = .ok (.aload_n 0, 1) := dq0 kk_42 (by decide +kernel)
theorem dX12_syllableAt_93 : decode cX12_syllableAt 93 = .ok (.getfield 17, 3) := dqV kk_180 (by decide +kernel)
theorem dX12_syllableAt_96 : decode cX12_syllableAt 96 = .ok (.bipush 27, 2) := dqS kk_16 (by decide +kernel)
theorem dX12_syllableAt_98 : decode cX12_syllableAt 98 = .ok (.iaload, 1) := dq0 kk_46 (by decide +kernel)
theorem dX12_syllableAt_99 : decode cX12_syllableAt 99 = .ok (.iload_n 2, 1) := dq0 kk_28 (by decide +kernel)
theorem dX12_syllableAt_100 : decode cX12_syllableAt 100 = .ok (.invokestatic 51, 3) := dqV kk_184 (by decide +kernel)
theorem dX12_syllableAt_103 : decode cX12_syllableAt 103 = .ok (.ifCond .eq 7, 3) := dqT kk_153 (by decide +kernel)
theorem dX12_syllableAt_110 : decode cX12_syllableAt 110 = .ok (.iconst 0, 1) := dq0 kk_3 (by decide +kernel)
theorem dX12_syllableAt_111 : decode cX12_syllableAt 111 = .ok (.ireturn, 1) := dq0 kk_172 (by decide +kernel)
theorem dX12_syllableAt_106 : decode cX12_syllableAt 106 = .ok (.iconst 1, 1) := dq0 kk_4 (by decide +kernel)
theorem dX12_syllableAt_107 : decode cX12_syllableAt 107 = .ok (.goto 4, 3) := dqT kk_167 (by decide +kernel)
theorem dX12_syllableAt_112 : decode cX12_syllableAt 112 = .ok (.iload 4, 2) := dqU kk_21 (by decide +kernel)
theorem dX12_syllableAt_114 : decode cX12_syllableAt 114 = .ok (.invokestatic 76, 3) := dqV kk_184 (by decide +kernel)
theorem dX12_syllableAt_117 : decode cX12_syllableAt 117 = .ok (.ireturn, 1) := dq0 kk_172 (by decide +kernel)
theorem dX12_syllableAt_118 : decode cX12_syllableAt 118 = .ok (.iload 4, 2) := dqU kk_21 (by decide +kernel)
theorem dX12_syllableAt_120 : decode cX12_syllableAt 120 = .ok (.invokestatic 63, 3) := dqV kk_184 (by decide +kernel)
theorem dX12_syllableAt_123 : decode cX12_syllableAt 123 = .ok (.invokestatic 285, 3) := dqV kk_184 (by decide +kernel)
theorem dX12_syllableAt_126 : decode cX12_syllableAt 126 = .ok (.ireturn, 1) := dq0 kk_172 (by decide +kernel)
theorem dX12_syllableAt_127 : decode cX12_syllableAt 127 = .ok (.iload 4, 2) := dqU kk_21 (by decide +kernel)
theorem dX12_syllableAt_129 : decode cX12_syllableAt 129 = .ok (.invokestatic 59, 3) := dqV kk_184 (by decide +kernel)
theorem dX12_syllableAt_132 : decode cX12_syllableAt 132 = .ok (.invokestatic 285, 3) := dqV kk_184 (by decide +kernel)
theorem dX12_syllableAt_135 : decode cX12_syllableAt 135 = .ok (.ireturn, 1) := dq0 kk_172 (by decide +kernel)
theorem dX12_syllableAt_136 : decode cX12_syllableAt 136 = .ok (.aload_n 0, 1) := dq0 kk_42 (by decide +kernel)
theorem dX12_syllableAt_137 : decode cX12_syllableAt 137 = .ok (.iload_n 2, 1) := dq0 kk_28 (by decide +kernel)
theorem dX12_syllableAt_138 : decode cX12_syllableAt 138 = .ok (.invokevirtual 288, 3) := dqV kk_182 (by decide +kernel)
theorem tk_X12_reading : Cond.code yX12_reading cX12_reading 5 (some .int) ∈ TB := tbm (tc6 (List.mem_of_getElem? (i := 200) rfl)) rfl
theorem gc_X12_reading : GoodIn TB (cw yX12_reading cX12_reading 5 (some .int)) := goodIn_c2 tk_X12_reading
theorem tb_637 : Cond.methodLink "ToneLinesModel" 288 yX12_reading ∈ TB := tbm (tc6 (List.mem_of_getElem? (i := 197) rfl)) rfl
theorem tb_638 : Cond.instanceMethod yX12_reading ∈ TB := tbm (tc6 (List.mem_of_getElem? (i := 199) rfl)) rfl
theorem tb_639 : Cond.selects "ToneLinesModel" yX12_reading yX12_reading ∈ TB := tbp (List.mem_of_getElem? (i := 81) rfl) rfl
theorem gv_X12_288 : GoodIn TB (wsV RX12 288 RX12 yX12_reading (cw yX12_reading cX12_reading 5 (some .int))) := goodIn_4 tb_637 tb_638 tb_639 tb_38 gc_X12_reading
theorem hv_X12_reading : yX12_reading.cls = RX12 ∧ yX12_reading.cls ≠ "java/lang/invoke/MethodHandle" ∧ yX12_reading.cls ≠ "java/lang/invoke/VarHandle" ∧ (parseMethodDescriptor yX12_reading.desc).map (fun d => d.parameters.length) = some 1 := by decide +kernel
theorem dX12_syllableAt_141 : decode cX12_syllableAt 141 = .ok (.ireturn, 1) := dq0 kk_172 (by decide +kernel)
theorem dX12_syllableAt_142 : decode cX12_syllableAt 142 = .ok (.iconst (-1), 1) := dq0 kk_2 (by decide +kernel)
theorem dX12_syllableAt_143 : decode cX12_syllableAt 143 = .ok (.ireturn, 1) := dq0 kk_172 (by decide +kernel)
set_option maxRecDepth 4000 in
theorem q_X12_syllableAt {l : Launch} {D : va_G} {B : Nat} {cy : Nat → ClassId} {M : Mem} {x : Int} (hx : (-2147483648) ≤ x ∧ x ≤ 2147483647) {y : Int} (hy : (-2147483648) ≤ y ∧ y ≤ 2147483647) {x1 : Int} (hx1 : (-2147483648) ≤ x1 ∧ x1 ≤ 2147483647) (hI : IvR M) : Ci l D B cy yX12_syllableAt cX12_syllableAt 5 (some .int) 10 233 [.ref (B + 146), .int (zI x), .int (zI y), .int (zI x1)] M (fun r M1 => ∃ z : Int, r = zI z ∧ ((-2147483648) ≤ z ∧ z ≤ 2147483647) ∧ IvR M1 ∧ Fr (fun b9 k9 => (b9 = 146 ∧ k9 = 3) ∨ (b9 = 146 ∧ k9 = 6) ∨ b9 = 148) M1 M) := by
  refine s_anyQ (by decide) (Nat.le_of_ble_eq_true rfl) ?_
  intro p e s m args below meth c ls Q F hr hlocks hQ w hl
  have F : CallFix p m c cX12_syllableAt 5 s args TB RX12 := F
  have hx := F.1
  have hb := F.2.1
  have hl : lv_has ls 5 [(0, .ref (B + 146)), (1, .int (zI x)), (2, .int (zI y)), (3, .int (zI x1))] := hl
  have hF : Fr (fun b9 k9 => (b9 = 146 ∧ k9 = 3) ∨ (b9 = 146 ∧ k9 = 6) ∨ b9 = 148) M M := Fr.rf
  refine lv_aload_n hx hb dX12_syllableAt_0 rfl (lv_at hl 0 rfl) ?_
  refine lv_iload_n hx hb dX12_syllableAt_1 rfl (lv_at hl 1 rfl) ?_
  refine k_Vi F w (As := [.int (zI x)]) (rest := []) (a := 146) (kd_lt (a := 146) (show kd 146 = (12, 0, 0) from rfl) (by decide)) (sh_12 rfl _ _) rfl (q_X12_lays (x := x) ⟨by omega, by omega⟩  hI) gv_X12_261 hv_X12_lays ⟨(Nat.le_of_ble_eq_true rfl), (Nat.le_of_ble_eq_true rfl)⟩ hl.1 rfl (Nat.le_of_ble_eq_true rfl) ⟨Nat.zero_le _, Nat.zero_le _⟩ dX12_syllableAt_2 (fun r1 N2 H locs hp w => ?_)
  obtain ⟨z3, rfl, bz3, hIN2, hFN2⟩ := hp
  have hGN2 := Fr.tr hF hFN2 (S := (fun b9 k9 => (b9 = 146 ∧ k9 = 3) ∨ (b9 = 146 ∧ k9 = 6) ∨ b9 = 148)) (fun b k h => by (try dsimp only at h ⊢); rcases h with ⟨rfl, rfl⟩ | ⟨rfl, rfl⟩ | rfl <;> first | decide | omega)
  refine z_if_eq (tgt := 19) hx hb (by omega) dX12_syllableAt_5 (by decide) (fun c4 => ?_) (fun c4 => ?_)
  · refine lv_iconst (v := zI (-1)) hx hb dX12_syllableAt_19 rfl ?_
    rw [hQ]
    exact e_i F w hr hlocks ⟨_, rfl, ⟨by omega, by omega⟩, hIN2, hGN2⟩ dX12_syllableAt_20
  · refine lv_aload_n hx hb dX12_syllableAt_8 rfl (lv_at hl 0 rfl) ?_
    refine f_12_2 F w (a := 146) rfl tb_45 dX12_syllableAt_9 ?_
    refine lv_iload_n hx hb dX12_syllableAt_12 rfl (lv_at hl 2 rfl) ?_
    refine k_Si F w (As := [.ref (B + 148), .int (zI y)]) (rest := []) (q_X12_isSyllable_148 (t := y) ⟨by omega, by omega⟩  hIN2) gs_X12_94 hs_X12_isSyllable ⟨(Nat.le_of_ble_eq_true rfl), (Nat.le_of_ble_eq_true rfl)⟩ hl.1 rfl (Nat.le_of_ble_eq_true rfl) ⟨Nat.zero_le _, Nat.zero_le _⟩ dX12_syllableAt_13 (fun r5 N6 H locs hp w => ?_)
    obtain ⟨z7, rfl, bz7, xz7, hMN6⟩ := hp
    rw [hMN6] at w
    refine z_if_ne (tgt := 21) hx hb (by omega) dX12_syllableAt_16 (by decide) (fun c8 => ?_) (fun c8 => ?_)
    · refine lv_aload_n hx hb dX12_syllableAt_21 rfl (lv_at hl 0 rfl) ?_
      refine f_12_2 F w (a := 146) rfl tb_45 dX12_syllableAt_22 ?_
      refine lv_iload_n hx hb dX12_syllableAt_25 rfl (lv_at hl 2 rfl) ?_
      refine k_Si F w (As := [.ref (B + 148), .int (zI y)]) (rest := []) (q_X12_tonesOf_148 (y := y) ⟨by omega, by omega⟩  hIN2) gs_X12_69 hs_X12_tonesOf ⟨(Nat.le_of_ble_eq_true rfl), (Nat.le_of_ble_eq_true rfl)⟩ hl.1 rfl (Nat.le_of_ble_eq_true rfl) ⟨Nat.zero_le _, Nat.zero_le _⟩ dX12_syllableAt_26 (fun r9 N10 H locs hp w => ?_)
      obtain ⟨z11, rfl, bz11, hMN10⟩ := hp
      rw [hMN10] at w
      refine lv_istore (lv' := [(4, .int (zI z11)), (0, .ref (B + 146)), (1, .int (zI x)), (2, .int (zI y)), (3, .int (zI x1))]) hx hb dX12_syllableAt_29 hl (by decide) rfl (fun ls hl => ?_)
      refine lv_iload_n hx hb dX12_syllableAt_31 rfl (lv_at hl 4 rfl) ?_
      rcases (show x1 = 0 ∨ x1 = 1 ∨ x1 = 2 ∨ x1 = 3 ∨ x1 = 4 ∨ x1 = 5 ∨ (x1 ≠ 0 ∧ x1 ≠ 1 ∧ x1 ≠ 2 ∧ x1 ≠ 3 ∧ x1 ≠ 4 ∧ x1 ≠ 5) by omega) with c12 | c12 | c12 | c12 | c12 | c12 | c12
      · refine r_val (v := zI 0) (congrArg zI c12) ?_
        refine lv_tableIn (tgt := 72) hx hb dX12_syllableAt_32 (by decide) (by decide) (off := 40) rfl (by decide) ?_
        refine lv_aload_n hx hb dX12_syllableAt_72 rfl (lv_at hl 1 rfl) ?_
        refine f_12_2 F w (a := 146) rfl tb_45 dX12_syllableAt_73 ?_
        refine lv_bipush (v := zI 26) hx hb dX12_syllableAt_76 (by decide) ?_
        refine g_iald F w (a := 148) rfl (j := 26) ⟨by decide, by decide⟩ (by omega) dX12_syllableAt_78 ?_
        obtain ⟨z13, bz13, ez13⟩ := IvR.ld (k := 26) hIN2 (show ivr 148 26 = (0, 4095) from rfl) (show 146 ≤ 148 ∧ 148 < 159 by decide)
        refine r_val ez13 ?_
        refine lv_iload_n hx hb dX12_syllableAt_79 rfl (lv_at hl 3 rfl) ?_
        refine k_Si F w (As := [.int (zI z13), .int (zI y)]) (rest := []) (q_X12_isIn (x := z13) ⟨by omega, by omega⟩ (x1 := y) ⟨by omega, by omega⟩  hIN2) gs_X12_51 hs_X12_isIn ⟨(Nat.le_of_ble_eq_true rfl), (Nat.le_of_ble_eq_true rfl)⟩ hl.1 rfl (Nat.le_of_ble_eq_true rfl) ⟨Nat.zero_le _, Nat.zero_le _⟩ dX12_syllableAt_80 (fun r14 N15 H locs hp w => ?_)
        obtain ⟨z16, rfl, bz16, hMN15⟩ := hp
        rw [hMN15] at w
        refine z_if_eq (tgt := 90) hx hb (by omega) dX12_syllableAt_83 (by decide) (fun c17 => ?_) (fun c17 => ?_)
        · refine lv_iconst (v := zI 0) hx hb dX12_syllableAt_90 rfl ?_
          rw [hQ]
          exact e_i F w hr hlocks ⟨_, rfl, ⟨by omega, by omega⟩, hIN2, hGN2⟩ dX12_syllableAt_91
        · refine lv_iconst (v := zI 1) hx hb dX12_syllableAt_86 rfl ?_
          refine lv_goto (tgt := 91) hx hb dX12_syllableAt_87 (by decide) ?_
          rw [hQ]
          exact e_i F w hr hlocks ⟨_, rfl, ⟨by omega, by omega⟩, hIN2, hGN2⟩ dX12_syllableAt_91
      · refine r_val (v := zI 1) (congrArg zI c12) ?_
        refine lv_tableIn (tgt := 92) hx hb dX12_syllableAt_32 (by decide) (by decide) (off := 60) rfl (by decide) ?_
        refine lv_aload_n hx hb dX12_syllableAt_92 rfl (lv_at hl 1 rfl) ?_
        refine f_12_2 F w (a := 146) rfl tb_45 dX12_syllableAt_93 ?_
        refine lv_bipush (v := zI 27) hx hb dX12_syllableAt_96 (by decide) ?_
        refine g_iald F w (a := 148) rfl (j := 27) ⟨by decide, by decide⟩ (by omega) dX12_syllableAt_98 ?_
        obtain ⟨z18, bz18, ez18⟩ := IvR.ld (k := 27) hIN2 (show ivr 148 27 = (0, 4095) from rfl) (show 146 ≤ 148 ∧ 148 < 159 by decide)
        refine r_val ez18 ?_
        refine lv_iload_n hx hb dX12_syllableAt_99 rfl (lv_at hl 3 rfl) ?_
        refine k_Si F w (As := [.int (zI z18), .int (zI y)]) (rest := []) (q_X12_isIn (x := z18) ⟨by omega, by omega⟩ (x1 := y) ⟨by omega, by omega⟩  hIN2) gs_X12_51 hs_X12_isIn ⟨(Nat.le_of_ble_eq_true rfl), (Nat.le_of_ble_eq_true rfl)⟩ hl.1 rfl (Nat.le_of_ble_eq_true rfl) ⟨Nat.zero_le _, Nat.zero_le _⟩ dX12_syllableAt_100 (fun r19 N20 H locs hp w => ?_)
        obtain ⟨z21, rfl, bz21, hMN20⟩ := hp
        rw [hMN20] at w
        refine z_if_eq (tgt := 110) hx hb (by omega) dX12_syllableAt_103 (by decide) (fun c22 => ?_) (fun c22 => ?_)
        · refine lv_iconst (v := zI 0) hx hb dX12_syllableAt_110 rfl ?_
          rw [hQ]
          exact e_i F w hr hlocks ⟨_, rfl, ⟨by omega, by omega⟩, hIN2, hGN2⟩ dX12_syllableAt_111
        · refine lv_iconst (v := zI 1) hx hb dX12_syllableAt_106 rfl ?_
          refine lv_goto (tgt := 111) hx hb dX12_syllableAt_107 (by decide) ?_
          rw [hQ]
          exact e_i F w hr hlocks ⟨_, rfl, ⟨by omega, by omega⟩, hIN2, hGN2⟩ dX12_syllableAt_111
      · refine r_val (v := zI 2) (congrArg zI c12) ?_
        refine lv_tableIn (tgt := 112) hx hb dX12_syllableAt_32 (by decide) (by decide) (off := 80) rfl (by decide) ?_
        refine lv_iload hx hb dX12_syllableAt_112 (lv_at hl 0 rfl) ?_
        refine k_Si F w (As := [.int (zI z11)]) (rest := []) (q_bitsOf (x := z11) ⟨by omega, by omega⟩ ) gs_X12_76 hs_X12_bitsOf ⟨(Nat.le_of_ble_eq_true rfl), (Nat.le_of_ble_eq_true rfl)⟩ hl.1 rfl (Nat.le_of_ble_eq_true rfl) ⟨Nat.zero_le _, Nat.zero_le _⟩ dX12_syllableAt_114 (fun r23 N24 H locs hp w => ?_)
        obtain ⟨hrz25, hMz25⟩ := hp
        rw [hMz25] at w
        obtain ⟨z25, bz25, xz25, ez25⟩ := pop2_ex z11 (by omega)
        refine r_val (hrz25.trans ez25) ?_
        rw [hQ]
        exact e_i F w hr hlocks ⟨_, rfl, ⟨by omega, by omega⟩, hIN2, hGN2⟩ dX12_syllableAt_117
      · refine r_val (v := zI 3) (congrArg zI c12) ?_
        refine lv_tableIn (tgt := 118) hx hb dX12_syllableAt_32 (by decide) (by decide) (off := 86) rfl (by decide) ?_
        refine lv_iload hx hb dX12_syllableAt_118 (lv_at hl 0 rfl) ?_
        refine k_Si F w (As := [.int (zI z11)]) (rest := []) (q_firstOf (x := z11) ⟨by omega, by omega⟩ ) gs_X12_63 hs_X12_firstOf ⟨(Nat.le_of_ble_eq_true rfl), (Nat.le_of_ble_eq_true rfl)⟩ hl.1 rfl (Nat.le_of_ble_eq_true rfl) ⟨Nat.zero_le _, Nat.zero_le _⟩ dX12_syllableAt_120 (fun r26 N27 H locs hp w => ?_)
        obtain ⟨hrz28, hMz28⟩ := hp
        rw [hMz28] at w
        obtain ⟨z28, bz28, xz28, xcz28, ez28⟩ := low2_ex z11 (by omega)
        refine r_val (hrz28.trans ez28) ?_
        refine k_Si F w (As := [.int (zI z28)]) (rest := []) (q_X12_orNeither (x := z28) ⟨by omega, by omega⟩  hIN2) gs_X12_285 hs_X12_orNeither ⟨(Nat.le_of_ble_eq_true rfl), (Nat.le_of_ble_eq_true rfl)⟩ hl.1 rfl (Nat.le_of_ble_eq_true rfl) ⟨Nat.zero_le _, Nat.zero_le _⟩ dX12_syllableAt_123 (fun r29 N30 H locs hp w => ?_)
        obtain ⟨z31, rfl, bz31, hMN30⟩ := hp
        rw [hMN30] at w
        rw [hQ]
        exact e_i F w hr hlocks ⟨_, rfl, ⟨by omega, by omega⟩, hIN2, hGN2⟩ dX12_syllableAt_126
      · refine r_val (v := zI 4) (congrArg zI c12) ?_
        refine lv_tableIn (tgt := 127) hx hb dX12_syllableAt_32 (by decide) (by decide) (off := 95) rfl (by decide) ?_
        refine lv_iload hx hb dX12_syllableAt_127 (lv_at hl 0 rfl) ?_
        refine k_Si F w (As := [.int (zI z11)]) (rest := []) (q_lastOf (x := z11) ⟨by omega, by omega⟩ ) gs_X12_59 hs_X12_lastOf ⟨(Nat.le_of_ble_eq_true rfl), (Nat.le_of_ble_eq_true rfl)⟩ hl.1 rfl (Nat.le_of_ble_eq_true rfl) ⟨Nat.zero_le _, Nat.zero_le _⟩ dX12_syllableAt_129 (fun r32 N33 H locs hp w => ?_)
        obtain ⟨hrz34, hMz34⟩ := hp
        rw [hMz34] at w
        obtain ⟨z34, bz34, xz34, xcz34, ez34⟩ := hig2_ex z11 (by omega)
        refine r_val (hrz34.trans ez34) ?_
        refine k_Si F w (As := [.int (zI z34)]) (rest := []) (q_X12_orNeither (x := z34) ⟨by omega, by omega⟩  hIN2) gs_X12_285 hs_X12_orNeither ⟨(Nat.le_of_ble_eq_true rfl), (Nat.le_of_ble_eq_true rfl)⟩ hl.1 rfl (Nat.le_of_ble_eq_true rfl) ⟨Nat.zero_le _, Nat.zero_le _⟩ dX12_syllableAt_132 (fun r35 N36 H locs hp w => ?_)
        obtain ⟨z37, rfl, bz37, hMN36⟩ := hp
        rw [hMN36] at w
        rw [hQ]
        exact e_i F w hr hlocks ⟨_, rfl, ⟨by omega, by omega⟩, hIN2, hGN2⟩ dX12_syllableAt_135
      · refine r_val (v := zI 5) (congrArg zI c12) ?_
        refine lv_tableIn (tgt := 136) hx hb dX12_syllableAt_32 (by decide) (by decide) (off := 104) rfl (by decide) ?_
        refine lv_aload_n hx hb dX12_syllableAt_136 rfl (lv_at hl 1 rfl) ?_
        refine lv_iload_n hx hb dX12_syllableAt_137 rfl (lv_at hl 3 rfl) ?_
        refine k_Vi F w (As := [.int (zI y)]) (rest := []) (a := 146) (kd_lt (a := 146) (show kd 146 = (12, 0, 0) from rfl) (by decide)) (sh_12 rfl _ _) rfl (q_X12_reading (y := y) ⟨by omega, by omega⟩  hIN2) gv_X12_288 hv_X12_reading ⟨(Nat.le_of_ble_eq_true rfl), (Nat.le_of_ble_eq_true rfl)⟩ hl.1 rfl (Nat.le_of_ble_eq_true rfl) ⟨Nat.zero_le _, Nat.zero_le _⟩ dX12_syllableAt_138 (fun r38 N39 H locs hp w => ?_)
        obtain ⟨z40, rfl, bz40, hMN39⟩ := hp
        rw [hMN39] at w
        rw [hQ]
        exact e_i F w hr hlocks ⟨_, rfl, ⟨by omega, by omega⟩, hIN2, hGN2⟩ dX12_syllableAt_141
      · refine lv_tableOut (tgt := 142) hx hb dX12_syllableAt_32 (by rw [zI_toInt (by omega)]; omega) (by decide) ?_
        refine lv_iconst (v := zI (-1)) hx hb dX12_syllableAt_142 rfl ?_
        rw [hQ]
        exact e_i F w hr hlocks ⟨_, rfl, ⟨by omega, by omega⟩, hIN2, hGN2⟩ dX12_syllableAt_143
    · refine lv_iconst (v := zI (-1)) hx hb dX12_syllableAt_19 rfl ?_
      rw [hQ]
      exact e_i F w hr hlocks ⟨_, rfl, ⟨by omega, by omega⟩, hIN2, hGN2⟩ dX12_syllableAt_20
theorem dX12_linesOf_0 : decode cX12_linesOf 0 = .ok (.aload_n 0, 1) := dq0 kk_42 (by decide +kernel)
theorem dX12_linesOf_1 : decode cX12_linesOf 1 = .ok (.iload_n 1, 1) := dq0 kk_27 (by decide +kernel)
theorem dX12_linesOf_2 : decode cX12_linesOf 2 = .ok (.invokevirtual 261, 3) := dqV kk_182 (by decide +kernel)
theorem dX12_linesOf_5 : decode cX12_linesOf 5 = .ok (.ifCond .eq 26, 3) := dqT kk_153 (by decide +kernel)
theorem dX12_linesOf_31 : decode cX12_linesOf 31 = .ok (.iconst (-1), 1) := dq0 kk_2 (by decide +kernel)
theorem dX12_linesOf_32 : decode cX12_linesOf 32 = .ok (.ireturn, 1) := dq0 kk_172 (by decide +kernel)
theorem dX12_linesOf_8 : decode cX12_linesOf 8 = .ok (.aload_n 0, 1) := dq0 kk_42 (by decide +kernel)
theorem dX12_linesOf_9 : decode cX12_linesOf 9 = .ok (.getfield 17, 3) := dqV kk_180 (by decide +kernel)
theorem dX12_linesOf_12 : decode cX12_linesOf 12 = .ok (.iload_n 2, 1) := dq0 kk_28 (by decide +kernel)
theorem dX12_linesOf_13 : decode cX12_linesOf 13 = .ok (.invokestatic 105, 3) := dqV kk_184 (by decide +kernel)
theorem dX12_linesOf_16 : decode cX12_linesOf 16 = .ok (.ifCond .eq 15, 3) := dqT kk_153 (by decide +kernel)
theorem dX12_linesOf_19 : decode cX12_linesOf 19 = .ok (.aload_n 0, 1) := dq0 kk_42 (by decide +kernel)
theorem dX12_linesOf_20 : decode cX12_linesOf 20 = .ok (.getfield 17, 3) := dqV kk_180 (by decide +kernel)
theorem dX12_linesOf_23 : decode cX12_linesOf 23 = .ok (.bipush 13, 2) := dqS kk_16 (by decide +kernel)
theorem dX12_linesOf_25 : decode cX12_linesOf 25 = .ok (.iload_n 2, 1) := dq0 kk_28 (by decide +kernel)
theorem dX12_linesOf_26 : decode cX12_linesOf 26 = .ok (.iadd, 1) := dq0 kk_96 (by decide +kernel)
theorem dX12_linesOf_27 : decode cX12_linesOf 27 = .ok (.iaload, 1) := dq0 kk_46 (by decide +kernel)
theorem dX12_linesOf_28 : decode cX12_linesOf 28 = .ok (.goto 4, 3) := dqT kk_167 (by decide +kernel)
set_option maxRecDepth 4000 in
theorem q_X12_linesOf {l : Launch} {D : va_G} {B : Nat} {cy : Nat → ClassId} {M : Mem} {x : Int} (hx : (-2147483648) ≤ x ∧ x ≤ 2147483647) {t : Int} (ht : (-2147483648) ≤ t ∧ t ≤ 2147483647) (hI : IvR M) : Ci l D B cy yX12_linesOf cX12_linesOf 3 (some .int) 10 233 [.ref (B + 146), .int (zI x), .int (zI t)] M (fun r M1 => ∃ z : Int, r = zI z ∧ ((-1) ≤ z ∧ z ≤ 4095) ∧ IvR M1 ∧ Fr (fun b9 k9 => (b9 = 146 ∧ k9 = 3) ∨ (b9 = 146 ∧ k9 = 6) ∨ b9 = 148) M1 M) := by
  refine s_anyQ (by decide) (Nat.le_of_ble_eq_true rfl) ?_
  intro p e s m args below meth c ls Q F hr hlocks hQ w hl
  have F : CallFix p m c cX12_linesOf 3 s args TB RX12 := F
  have hx := F.1
  have hb := F.2.1
  have hl : lv_has ls 3 [(0, .ref (B + 146)), (1, .int (zI x)), (2, .int (zI t))] := hl
  have hF : Fr (fun b9 k9 => (b9 = 146 ∧ k9 = 3) ∨ (b9 = 146 ∧ k9 = 6) ∨ b9 = 148) M M := Fr.rf
  refine lv_aload_n hx hb dX12_linesOf_0 rfl (lv_at hl 0 rfl) ?_
  refine lv_iload_n hx hb dX12_linesOf_1 rfl (lv_at hl 1 rfl) ?_
  refine k_Vi F w (As := [.int (zI x)]) (rest := []) (a := 146) (kd_lt (a := 146) (show kd 146 = (12, 0, 0) from rfl) (by decide)) (sh_12 rfl _ _) rfl (q_X12_lays (x := x) ⟨by omega, by omega⟩  hI) gv_X12_261 hv_X12_lays ⟨(Nat.le_of_ble_eq_true rfl), (Nat.le_of_ble_eq_true rfl)⟩ hl.1 rfl (Nat.le_of_ble_eq_true rfl) ⟨Nat.zero_le _, Nat.zero_le _⟩ dX12_linesOf_2 (fun r1 N2 H locs hp w => ?_)
  obtain ⟨z3, rfl, bz3, hIN2, hFN2⟩ := hp
  have hGN2 := Fr.tr hF hFN2 (S := (fun b9 k9 => (b9 = 146 ∧ k9 = 3) ∨ (b9 = 146 ∧ k9 = 6) ∨ b9 = 148)) (fun b k h => by (try dsimp only at h ⊢); rcases h with ⟨rfl, rfl⟩ | ⟨rfl, rfl⟩ | rfl <;> first | decide | omega)
  refine z_if_eq (tgt := 31) hx hb (by omega) dX12_linesOf_5 (by decide) (fun c4 => ?_) (fun c4 => ?_)
  · refine lv_iconst (v := zI (-1)) hx hb dX12_linesOf_31 rfl ?_
    rw [hQ]
    exact e_i F w hr hlocks ⟨_, rfl, ⟨by omega, by omega⟩, hIN2, hGN2⟩ dX12_linesOf_32
  · refine lv_aload_n hx hb dX12_linesOf_8 rfl (lv_at hl 0 rfl) ?_
    refine f_12_2 F w (a := 146) rfl tb_45 dX12_linesOf_9 ?_
    refine lv_iload_n hx hb dX12_linesOf_12 rfl (lv_at hl 2 rfl) ?_
    obtain ⟨z5, bz5, ez5⟩ := IvR.ld (k := 0) hIN2 (show ivr 148 0 = (0, 12) from rfl) (show 146 ≤ 148 ∧ 148 < 159 by decide)
    refine k_Si F w (As := [.ref (B + 148), .int (zI t)]) (rest := []) (q_X12_isTone_148 (t := t) ⟨by omega, by omega⟩ (nn := z5) (ez5) ⟨by omega, by omega⟩  hIN2) gs_X12_105 hs_X12_isTone ⟨(Nat.le_of_ble_eq_true rfl), (Nat.le_of_ble_eq_true rfl)⟩ hl.1 rfl (Nat.le_of_ble_eq_true rfl) ⟨Nat.zero_le _, Nat.zero_le _⟩ dX12_linesOf_13 (fun r6 N7 H locs hp w => ?_)
    obtain ⟨z8, rfl, bz8, xz8, hMN7⟩ := hp
    rw [hMN7] at w
    refine z_if_eq (tgt := 31) hx hb (by omega) dX12_linesOf_16 (by decide) (fun c9 => ?_) (fun c9 => ?_)
    · refine lv_iconst (v := zI (-1)) hx hb dX12_linesOf_31 rfl ?_
      rw [hQ]
      exact e_i F w hr hlocks ⟨_, rfl, ⟨by omega, by omega⟩, hIN2, hGN2⟩ dX12_linesOf_32
    · refine lv_aload_n hx hb dX12_linesOf_19 rfl (lv_at hl 0 rfl) ?_
      refine f_12_2 F w (a := 146) rfl tb_45 dX12_linesOf_20 ?_
      refine lv_bipush (v := zI 13) hx hb dX12_linesOf_23 (by decide) ?_
      refine lv_iload_n hx hb dX12_linesOf_25 rfl (lv_at hl 2 rfl) ?_
      refine z_iadd (z := (t + 13)) hx hb dX12_linesOf_26 (by omega) ?_
      refine g_iald F w (a := 148) rfl (j := (13 + Int.toNat t)) (ix_l (t := t) (by omega) (by omega)) (by omega) dX12_linesOf_27 ?_
      obtain ⟨z10, bz10, ez10⟩ := IvR.ld (k := (13 + Int.toNat t)) hIN2 (wiv_l (a := 148) (k := (13 + Int.toNat t)) (by omega) (by omega)) (show 146 ≤ 148 ∧ 148 < 159 by decide)
      refine r_val ez10 ?_
      refine lv_goto (tgt := 32) hx hb dX12_linesOf_28 (by decide) ?_
      rw [hQ]
      exact e_i F w hr hlocks ⟨_, rfl, ⟨by omega, by omega⟩, hIN2, hGN2⟩ dX12_linesOf_32
theorem dX12_open_0 : decode cX12_open 0 = .ok (.aload_n 0, 1) := dq0 kk_42 (by decide +kernel)
theorem dX12_open_1 : decode cX12_open 1 = .ok (.iload_n 1, 1) := dq0 kk_27 (by decide +kernel)
theorem dX12_open_2 : decode cX12_open 2 = .ok (.invokevirtual 261, 3) := dqV kk_182 (by decide +kernel)
theorem dX12_open_5 : decode cX12_open 5 = .ok (.ifCond .eq 25, 3) := dqT kk_153 (by decide +kernel)
theorem dX12_open_30 : decode cX12_open 30 = .ok (.iconst (-1), 1) := dq0 kk_2 (by decide +kernel)
theorem dX12_open_31 : decode cX12_open 31 = .ok (.ireturn, 1) := dq0 kk_172 (by decide +kernel)
theorem dX12_open_8 : decode cX12_open 8 = .ok (.aload_n 0, 1) := dq0 kk_42 (by decide +kernel)
theorem dX12_open_9 : decode cX12_open 9 = .ok (.getfield 17, 3) := dqV kk_180 (by decide +kernel)
theorem dX12_open_12 : decode cX12_open 12 = .ok (.iload_n 2, 1) := dq0 kk_28 (by decide +kernel)
theorem dX12_open_13 : decode cX12_open 13 = .ok (.invokestatic 105, 3) := dqV kk_184 (by decide +kernel)
theorem dX12_open_16 : decode cX12_open 16 = .ok (.ifCond .eq 14, 3) := dqT kk_153 (by decide +kernel)
theorem dX12_open_19 : decode cX12_open 19 = .ok (.aload_n 0, 1) := dq0 kk_42 (by decide +kernel)
theorem dX12_open_20 : decode cX12_open 20 = .ok (.getfield 17, 3) := dqV kk_180 (by decide +kernel)
theorem dX12_open_23 : decode cX12_open 23 = .ok (.iload_n 3, 1) := dq0 kk_29 (by decide +kernel)
theorem dX12_open_24 : decode cX12_open 24 = .ok (.invokestatic 94, 3) := dqV kk_184 (by decide +kernel)
theorem dX12_open_27 : decode cX12_open 27 = .ok (.ifCond .ne 5, 3) := dqT kk_154 (by decide +kernel)
theorem dX12_open_32 : decode cX12_open 32 = .ok (.aload_n 0, 1) := dq0 kk_42 (by decide +kernel)
theorem dX12_open_33 : decode cX12_open 33 = .ok (.getfield 17, 3) := dqV kk_180 (by decide +kernel)
theorem dX12_open_36 : decode cX12_open 36 = .ok (.iload_n 2, 1) := dq0 kk_28 (by decide +kernel)
theorem dX12_open_37 : decode cX12_open 37 = .ok (.iload_n 3, 1) := dq0 kk_29 (by decide +kernel)
theorem dX12_open_38 : decode cX12_open 38 = .ok (.invokestatic 86, 3) := dqV kk_184 (by decide +kernel)
theorem dX12_open_41 : decode cX12_open 41 = .ok (.ifCond .eq 7, 3) := dqT kk_153 (by decide +kernel)
theorem dX12_open_48 : decode cX12_open 48 = .ok (.iconst 0, 1) := dq0 kk_3 (by decide +kernel)
theorem dX12_open_49 : decode cX12_open 49 = .ok (.ireturn, 1) := dq0 kk_172 (by decide +kernel)
theorem dX12_open_44 : decode cX12_open 44 = .ok (.iconst 1, 1) := dq0 kk_4 (by decide +kernel)
theorem dX12_open_45 : decode cX12_open 45 = .ok (.goto 4, 3) := dqT kk_167 (by decide +kernel)
set_option maxRecDepth 4000 in
theorem q_X12_open {l : Launch} {D : va_G} {B : Nat} {cy : Nat → ClassId} {M : Mem} {x : Int} (hx : (-2147483648) ≤ x ∧ x ≤ 2147483647) {t : Int} (ht : (-2147483648) ≤ t ∧ t ≤ 2147483647) {y : Int} (hy : (-2147483648) ≤ y ∧ y ≤ 2147483647) (hI : IvR M) : Ci l D B cy yX12_open cX12_open 4 (some .int) 10 233 [.ref (B + 146), .int (zI x), .int (zI t), .int (zI y)] M (fun r M1 => ∃ z : Int, r = zI z ∧ ((-1) ≤ z ∧ z ≤ 1) ∧ IvR M1 ∧ Fr (fun b9 k9 => (b9 = 146 ∧ k9 = 3) ∨ (b9 = 146 ∧ k9 = 6) ∨ b9 = 148) M1 M) := by
  refine s_anyQ (by decide) (Nat.le_of_ble_eq_true rfl) ?_
  intro p e s m args below meth c ls Q F hr hlocks hQ w hl
  have F : CallFix p m c cX12_open 4 s args TB RX12 := F
  have hx := F.1
  have hb := F.2.1
  have hl : lv_has ls 4 [(0, .ref (B + 146)), (1, .int (zI x)), (2, .int (zI t)), (3, .int (zI y))] := hl
  have hF : Fr (fun b9 k9 => (b9 = 146 ∧ k9 = 3) ∨ (b9 = 146 ∧ k9 = 6) ∨ b9 = 148) M M := Fr.rf
  refine lv_aload_n hx hb dX12_open_0 rfl (lv_at hl 0 rfl) ?_
  refine lv_iload_n hx hb dX12_open_1 rfl (lv_at hl 1 rfl) ?_
  refine k_Vi F w (As := [.int (zI x)]) (rest := []) (a := 146) (kd_lt (a := 146) (show kd 146 = (12, 0, 0) from rfl) (by decide)) (sh_12 rfl _ _) rfl (q_X12_lays (x := x) ⟨by omega, by omega⟩  hI) gv_X12_261 hv_X12_lays ⟨(Nat.le_of_ble_eq_true rfl), (Nat.le_of_ble_eq_true rfl)⟩ hl.1 rfl (Nat.le_of_ble_eq_true rfl) ⟨Nat.zero_le _, Nat.zero_le _⟩ dX12_open_2 (fun r1 N2 H locs hp w => ?_)
  obtain ⟨z3, rfl, bz3, hIN2, hFN2⟩ := hp
  have hGN2 := Fr.tr hF hFN2 (S := (fun b9 k9 => (b9 = 146 ∧ k9 = 3) ∨ (b9 = 146 ∧ k9 = 6) ∨ b9 = 148)) (fun b k h => by (try dsimp only at h ⊢); rcases h with ⟨rfl, rfl⟩ | ⟨rfl, rfl⟩ | rfl <;> first | decide | omega)
  refine z_if_eq (tgt := 30) hx hb (by omega) dX12_open_5 (by decide) (fun c4 => ?_) (fun c4 => ?_)
  · refine lv_iconst (v := zI (-1)) hx hb dX12_open_30 rfl ?_
    rw [hQ]
    exact e_i F w hr hlocks ⟨_, rfl, ⟨by omega, by omega⟩, hIN2, hGN2⟩ dX12_open_31
  · refine lv_aload_n hx hb dX12_open_8 rfl (lv_at hl 0 rfl) ?_
    refine f_12_2 F w (a := 146) rfl tb_45 dX12_open_9 ?_
    refine lv_iload_n hx hb dX12_open_12 rfl (lv_at hl 2 rfl) ?_
    obtain ⟨z5, bz5, ez5⟩ := IvR.ld (k := 0) hIN2 (show ivr 148 0 = (0, 12) from rfl) (show 146 ≤ 148 ∧ 148 < 159 by decide)
    refine k_Si F w (As := [.ref (B + 148), .int (zI t)]) (rest := []) (q_X12_isTone_148 (t := t) ⟨by omega, by omega⟩ (nn := z5) (ez5) ⟨by omega, by omega⟩  hIN2) gs_X12_105 hs_X12_isTone ⟨(Nat.le_of_ble_eq_true rfl), (Nat.le_of_ble_eq_true rfl)⟩ hl.1 rfl (Nat.le_of_ble_eq_true rfl) ⟨Nat.zero_le _, Nat.zero_le _⟩ dX12_open_13 (fun r6 N7 H locs hp w => ?_)
    obtain ⟨z8, rfl, bz8, xz8, hMN7⟩ := hp
    rw [hMN7] at w
    refine z_if_eq (tgt := 30) hx hb (by omega) dX12_open_16 (by decide) (fun c9 => ?_) (fun c9 => ?_)
    · refine lv_iconst (v := zI (-1)) hx hb dX12_open_30 rfl ?_
      rw [hQ]
      exact e_i F w hr hlocks ⟨_, rfl, ⟨by omega, by omega⟩, hIN2, hGN2⟩ dX12_open_31
    · refine lv_aload_n hx hb dX12_open_19 rfl (lv_at hl 0 rfl) ?_
      refine f_12_2 F w (a := 146) rfl tb_45 dX12_open_20 ?_
      refine lv_iload_n hx hb dX12_open_23 rfl (lv_at hl 3 rfl) ?_
      refine k_Si F w (As := [.ref (B + 148), .int (zI y)]) (rest := []) (q_X12_isSyllable_148 (t := y) ⟨by omega, by omega⟩  hIN2) gs_X12_94 hs_X12_isSyllable ⟨(Nat.le_of_ble_eq_true rfl), (Nat.le_of_ble_eq_true rfl)⟩ hl.1 rfl (Nat.le_of_ble_eq_true rfl) ⟨Nat.zero_le _, Nat.zero_le _⟩ dX12_open_24 (fun r10 N11 H locs hp w => ?_)
      obtain ⟨z12, rfl, bz12, xz12, hMN11⟩ := hp
      rw [hMN11] at w
      refine z_if_ne (tgt := 32) hx hb (by omega) dX12_open_27 (by decide) (fun c13 => ?_) (fun c13 => ?_)
      · refine lv_aload_n hx hb dX12_open_32 rfl (lv_at hl 0 rfl) ?_
        refine f_12_2 F w (a := 146) rfl tb_45 dX12_open_33 ?_
        refine lv_iload_n hx hb dX12_open_36 rfl (lv_at hl 2 rfl) ?_
        refine lv_iload_n hx hb dX12_open_37 rfl (lv_at hl 3 rfl) ?_
        refine k_Si F w (As := [.ref (B + 148), .int (zI t), .int (zI y)]) (rest := []) (q_isOpen_148 (t := t) ⟨by omega, by omega⟩ (y := y) ⟨by omega, by omega⟩ (nn := z5) (ez5) ⟨by omega, by omega⟩ (by omega) hIN2) gs_X12_86 hs_X12_isOpen ⟨(Nat.le_of_ble_eq_true rfl), (Nat.le_of_ble_eq_true rfl)⟩ hl.1 rfl (Nat.le_of_ble_eq_true rfl) ⟨Nat.zero_le _, Nat.zero_le _⟩ dX12_open_38 (fun r14 N15 H locs hp w => ?_)
        obtain ⟨z16, rfl, bz16, xz16, hMN15⟩ := hp
        rw [hMN15] at w
        refine z_if_eq (tgt := 48) hx hb (by omega) dX12_open_41 (by decide) (fun c17 => ?_) (fun c17 => ?_)
        · refine lv_iconst (v := zI 0) hx hb dX12_open_48 rfl ?_
          rw [hQ]
          exact e_i F w hr hlocks ⟨_, rfl, ⟨by omega, by omega⟩, hIN2, hGN2⟩ dX12_open_49
        · refine lv_iconst (v := zI 1) hx hb dX12_open_44 rfl ?_
          refine lv_goto (tgt := 49) hx hb dX12_open_45 (by decide) ?_
          rw [hQ]
          exact e_i F w hr hlocks ⟨_, rfl, ⟨by omega, by omega⟩, hIN2, hGN2⟩ dX12_open_49
      · refine lv_iconst (v := zI (-1)) hx hb dX12_open_30 rfl ?_
        rw [hQ]
        exact e_i F w hr hlocks ⟨_, rfl, ⟨by omega, by omega⟩, hIN2, hGN2⟩ dX12_open_31
theorem dX12_rule_0 : decode cX12_rule 0 = .ok (.aload_n 0, 1) := rdX12_rule_0
theorem dX12_rule_1 : decode cX12_rule 1 = .ok (.iload_n 1, 1) := rdX12_rule_1
theorem dX12_rule_2 : decode cX12_rule 2 = .ok (.invokevirtual 249, 3) := rdX12_rule_2
theorem tk_X12_isRule : Cond.code yX12_isRule cX12_isRule 2 (some .boolean) ∈ TB := rtk_X12_isRule
theorem gc_X12_isRule : GoodIn TB (cw yX12_isRule cX12_isRule 2 (some .boolean)) := goodIn_c2 tk_X12_isRule
theorem tb_640 : Cond.methodLink "ToneLinesModel" 249 yX12_isRule ∈ TB := rtb_174
theorem tb_641 : Cond.instanceMethod yX12_isRule ∈ TB := rtb_175
theorem tb_642 : Cond.selects "ToneLinesModel" yX12_isRule yX12_isRule ∈ TB := rtb_176
theorem gv_X12_249 : GoodIn TB (wsV RX12 249 RX12 yX12_isRule (cw yX12_isRule cX12_isRule 2 (some .boolean))) := goodIn_4 tb_640 tb_641 tb_642 tb_38 gc_X12_isRule
theorem hv_X12_isRule : yX12_isRule.cls = RX12 ∧ yX12_isRule.cls ≠ "java/lang/invoke/MethodHandle" ∧ yX12_isRule.cls ≠ "java/lang/invoke/VarHandle" ∧ (parseMethodDescriptor yX12_isRule.desc).map (fun d => d.parameters.length) = some 1 := rhv_X12_isRule
theorem dX12_rule_5 : decode cX12_rule 5 = .ok (.ifCond .eq 27, 3) := rdX12_rule_5
theorem dX12_rule_32 : decode cX12_rule 32 = .ok (.iconst (-1), 1) := rdX12_rule_32
theorem dX12_rule_33 : decode cX12_rule 33 = .ok (.ireturn, 1) := rdX12_rule_33
theorem dX12_rule_8 : decode cX12_rule 8 = .ok (.iload_n 2, 1) := rdX12_rule_8
theorem dX12_rule_9 : decode cX12_rule 9 = .ok (.iconst 0, 1) := rdX12_rule_9
theorem dX12_rule_10 : decode cX12_rule 10 = .ok (.bipush 7, 2) := rdX12_rule_10
theorem dX12_rule_12 : decode cX12_rule 12 = .ok (.invokestatic 55, 3) := rdX12_rule_12
theorem dX12_rule_15 : decode cX12_rule 15 = .ok (.ifCond .eq 17, 3) := rdX12_rule_15
theorem dX12_rule_18 : decode cX12_rule 18 = .ok (.aload_n 0, 1) := rdX12_rule_18
theorem dX12_rule_19 : decode cX12_rule 19 = .ok (.getfield 20, 3) := rdX12_rule_19
theorem dX12_rule_22 : decode cX12_rule 22 = .ok (.bipush 8, 2) := rdX12_rule_22
theorem dX12_rule_24 : decode cX12_rule 24 = .ok (.iload_n 1, 1) := rdX12_rule_24
theorem dX12_rule_25 : decode cX12_rule 25 = .ok (.imul, 1) := rdX12_rule_25
theorem dX12_rule_26 : decode cX12_rule 26 = .ok (.iload_n 2, 1) := rdX12_rule_26
theorem dX12_rule_27 : decode cX12_rule 27 = .ok (.iadd, 1) := rdX12_rule_27
theorem dX12_rule_28 : decode cX12_rule 28 = .ok (.iaload, 1) := rdX12_rule_28
theorem dX12_rule_29 : decode cX12_rule 29 = .ok (.goto 4, 3) := rdX12_rule_29
set_option maxRecDepth 4000 in
theorem q_X12_rule {l : Launch} {D : va_G} {B : Nat} {cy : Nat → ClassId} {M : Mem} {x : Int} (hx : (-2147483648) ≤ x ∧ x ≤ 2147483647) {x1 : Int} (hx1 : (-2147483648) ≤ x1 ∧ x1 ≤ 2147483647) (hI : IvR M) : Ci l D B cy yX12_rule cX12_rule 3 (some .int) 2 43 [.ref (B + 146), .int (zI x), .int (zI x1)] M (fun r M1 => ∃ z : Int, r = zI z ∧ ((-99) ≤ z ∧ z ≤ 300) ∧ M1 = M) := by
  refine s_anyQ (by decide) (Nat.le_of_ble_eq_true rfl) ?_
  intro p e s m args below meth c ls Q F hr hlocks hQ w hl
  have F : CallFix p m c cX12_rule 3 s args TB RX12 := F
  have hx := F.1
  have hb := F.2.1
  have hl : lv_has ls 3 [(0, .ref (B + 146)), (1, .int (zI x)), (2, .int (zI x1))] := hl
  refine lv_aload_n hx hb dX12_rule_0 rfl (lv_at hl 0 rfl) ?_
  refine lv_iload_n hx hb dX12_rule_1 rfl (lv_at hl 1 rfl) ?_
  refine k_Vi F w (As := [.int (zI x)]) (rest := []) (a := 146) (kd_lt (a := 146) (show kd 146 = (12, 0, 0) from rfl) (by decide)) (sh_12 rfl _ _) rfl (q_X12_isRule (x := x) ⟨by omega, by omega⟩  hI) gv_X12_249 hv_X12_isRule ⟨(Nat.le_of_ble_eq_true rfl), (Nat.le_of_ble_eq_true rfl)⟩ hl.1 rfl (Nat.le_of_ble_eq_true rfl) ⟨Nat.zero_le _, Nat.zero_le _⟩ dX12_rule_2 (fun r1 N2 H locs hp w => ?_)
  obtain ⟨z3, rfl, bz3, xz3, hMN2⟩ := hp
  rw [hMN2] at w
  refine z_if_eq (tgt := 32) hx hb (by omega) dX12_rule_5 (by decide) (fun c4 => ?_) (fun c4 => ?_)
  · refine lv_iconst (v := zI (-1)) hx hb dX12_rule_32 rfl ?_
    rw [hQ]
    exact e_i F w hr hlocks ⟨_, rfl, ⟨by omega, by omega⟩, rfl⟩ dX12_rule_33
  · refine lv_iload_n hx hb dX12_rule_8 rfl (lv_at hl 2 rfl) ?_
    refine lv_iconst (v := zI 0) hx hb dX12_rule_9 rfl ?_
    refine lv_bipush (v := zI 7) hx hb dX12_rule_10 (by decide) ?_
    refine k_Si F w (As := [.int (zI x1), .int (zI 0), .int (zI 7)]) (rest := []) (q_X12_in (x := x1) ⟨by omega, by omega⟩ (x1 := 0) ⟨by omega, by omega⟩ (x2 := 7) ⟨by omega, by omega⟩  hI) gs_X12_55 hs_X12_in ⟨(Nat.le_of_ble_eq_true rfl), (Nat.le_of_ble_eq_true rfl)⟩ hl.1 rfl (Nat.le_of_ble_eq_true rfl) ⟨Nat.zero_le _, Nat.zero_le _⟩ dX12_rule_12 (fun r5 N6 H locs hp w => ?_)
    obtain ⟨z7, rfl, bz7, xz7, hMN6⟩ := hp
    rw [hMN6] at w
    refine z_if_eq (tgt := 32) hx hb (by omega) dX12_rule_15 (by decide) (fun c8 => ?_) (fun c8 => ?_)
    · refine lv_iconst (v := zI (-1)) hx hb dX12_rule_32 rfl ?_
      rw [hQ]
      exact e_i F w hr hlocks ⟨_, rfl, ⟨by omega, by omega⟩, rfl⟩ dX12_rule_33
    · refine lv_aload_n hx hb dX12_rule_18 rfl (lv_at hl 0 rfl) ?_
      refine f_12_4 F w (a := 146) rfl tb_532 dX12_rule_19 ?_
      refine lv_bipush (v := zI 8) hx hb dX12_rule_22 (by decide) ?_
      refine lv_iload_n hx hb dX12_rule_24 rfl (lv_at hl 1 rfl) ?_
      refine z_imul (z := (8 * x)) hx hb dX12_rule_25 (by omega) ?_
      refine lv_iload_n hx hb dX12_rule_26 rfl (lv_at hl 2 rfl) ?_
      obtain ⟨z9, bz9, x0z9, ez9⟩ := add_ex (8 * x) x1
      refine lv_iadd hx hb dX12_rule_27 ?_
      refine r_val ez9 ?_
      refine g_iald F w (a := 149) rfl (j := (Int.toNat z9)) (ix_z (by omega) (by omega)) (by omega) dX12_rule_28 ?_
      obtain ⟨z10, bz10, ez10⟩ := IvR.ld (k := (Int.toNat z9)) hI (show ivr 149 (Int.toNat z9) = ((-99), 300) from rfl) (show 146 ≤ 149 ∧ 149 < 159 by decide)
      refine r_val ez10 ?_
      refine lv_goto (tgt := 33) hx hb dX12_rule_29 (by decide) ?_
      rw [hQ]
      exact e_i F w hr hlocks ⟨_, rfl, ⟨by omega, by omega⟩, rfl⟩ dX12_rule_33
theorem dX12_done_0 : decode cX12_done 0 = .ok (.aload_n 0, 1) := dq0 kk_42 (by decide +kernel)
theorem dX12_done_1 : decode cX12_done 1 = .ok (.iload_n 1, 1) := dq0 kk_27 (by decide +kernel)
theorem dX12_done_2 : decode cX12_done 2 = .ok (.invokevirtual 249, 3) := dqV kk_182 (by decide +kernel)
theorem dX12_done_5 : decode cX12_done 5 = .ok (.ifCond .eq 12, 3) := dqT kk_153 (by decide +kernel)
theorem dX12_done_17 : decode cX12_done 17 = .ok (.iconst (-1), 1) := dq0 kk_2 (by decide +kernel)
theorem dX12_done_18 : decode cX12_done 18 = .ok (.ireturn, 1) := dq0 kk_172 (by decide +kernel)
theorem dX12_done_8 : decode cX12_done 8 = .ok (.iload_n 2, 1) := dq0 kk_28 (by decide +kernel)
theorem dX12_done_9 : decode cX12_done 9 = .ok (.iconst 0, 1) := dq0 kk_3 (by decide +kernel)
theorem dX12_done_10 : decode cX12_done 10 = .ok (.iconst 1, 1) := dq0 kk_4 (by decide +kernel)
theorem dX12_done_11 : decode cX12_done 11 = .ok (.invokestatic 55, 3) := dqV kk_184 (by decide +kernel)
theorem dX12_done_14 : decode cX12_done 14 = .ok (.ifCond .ne 5, 3) := dqT kk_154 (by decide +kernel)
theorem dX12_done_19 : decode cX12_done 19 = .ok (.aload_n 0, 1) := dq0 kk_42 (by decide +kernel)
theorem dX12_done_20 : decode cX12_done 20 = .ok (.iload_n 1, 1) := dq0 kk_27 (by decide +kernel)
theorem dX12_done_21 : decode cX12_done 21 = .ok (.invokevirtual 255, 3) := dqV kk_182 (by decide +kernel)
theorem dX12_done_24 : decode cX12_done 24 = .ok (.pop, 1) := dq0 kk_87 (by decide +kernel)
theorem dX12_done_25 : decode cX12_done 25 = .ok (.aload_n 0, 1) := dq0 kk_42 (by decide +kernel)
theorem dX12_done_26 : decode cX12_done 26 = .ok (.iload_n 1, 1) := dq0 kk_27 (by decide +kernel)
theorem dX12_done_27 : decode cX12_done 27 = .ok (.invokevirtual 166, 3) := dqV kk_182 (by decide +kernel)
theorem dX12_done_30 : decode cX12_done 30 = .ok (.istore_n 3, 1) := dq0 kk_62 (by decide +kernel)
theorem dX12_done_31 : decode cX12_done 31 = .ok (.iload_n 2, 1) := dq0 kk_28 (by decide +kernel)
theorem dX12_done_32 : decode cX12_done 32 = .ok (.ifCond .ne 7, 3) := dqT kk_154 (by decide +kernel)
theorem dX12_done_39 : decode cX12_done 39 = .ok (.aload_n 0, 1) := dq0 kk_42 (by decide +kernel)
theorem dX12_done_40 : decode cX12_done 40 = .ok (.getfield 156, 3) := dqV kk_180 (by decide +kernel)
theorem dX12_done_43 : decode cX12_done 43 = .ok (.ireturn, 1) := dq0 kk_172 (by decide +kernel)
theorem dX12_done_35 : decode cX12_done 35 = .ok (.iload_n 3, 1) := dq0 kk_29 (by decide +kernel)
theorem dX12_done_36 : decode cX12_done 36 = .ok (.goto 7, 3) := dqT kk_167 (by decide +kernel)
set_option maxRecDepth 4000 in
theorem q_X12_done {l : Launch} {D : va_G} {B : Nat} {cy : Nat → ClassId} {M : Mem} {x : Int} (hx : (-2147483648) ≤ x ∧ x ≤ 2147483647) {x1 : Int} (hx1 : (-2147483648) ≤ x1 ∧ x1 ≤ 2147483647) (hI : IvR M) : Ci l D B cy yX12_done cX12_done 4 (some .int) 9 212 [.ref (B + 146), .int (zI x), .int (zI x1)] M (fun r M1 => ∃ z : Int, r = zI z ∧ ((-2147483648) ≤ z ∧ z ≤ 2147483647) ∧ IvR M1 ∧ Fr (fun b9 k9 => (b9 = 146 ∧ k9 = 3) ∨ (b9 = 146 ∧ k9 = 6) ∨ b9 = 148) M1 M) := by
  refine s_anyQ (by decide) (Nat.le_of_ble_eq_true rfl) ?_
  intro p e s m args below meth c ls Q F hr hlocks hQ w hl
  have F : CallFix p m c cX12_done 4 s args TB RX12 := F
  have hx := F.1
  have hb := F.2.1
  have hl : lv_has ls 4 [(0, .ref (B + 146)), (1, .int (zI x)), (2, .int (zI x1))] := hl
  have hF : Fr (fun b9 k9 => (b9 = 146 ∧ k9 = 3) ∨ (b9 = 146 ∧ k9 = 6) ∨ b9 = 148) M M := Fr.rf
  refine lv_aload_n hx hb dX12_done_0 rfl (lv_at hl 0 rfl) ?_
  refine lv_iload_n hx hb dX12_done_1 rfl (lv_at hl 1 rfl) ?_
  refine k_Vi F w (As := [.int (zI x)]) (rest := []) (a := 146) (kd_lt (a := 146) (show kd 146 = (12, 0, 0) from rfl) (by decide)) (sh_12 rfl _ _) rfl (q_X12_isRule (x := x) ⟨by omega, by omega⟩  hI) gv_X12_249 hv_X12_isRule ⟨(Nat.le_of_ble_eq_true rfl), (Nat.le_of_ble_eq_true rfl)⟩ hl.1 rfl (Nat.le_of_ble_eq_true rfl) ⟨Nat.zero_le _, Nat.zero_le _⟩ dX12_done_2 (fun r1 N2 H locs hp w => ?_)
  obtain ⟨z3, rfl, bz3, xz3, hMN2⟩ := hp
  rw [hMN2] at w
  refine z_if_eq (tgt := 17) hx hb (by omega) dX12_done_5 (by decide) (fun c4 => ?_) (fun c4 => ?_)
  · refine lv_iconst (v := zI (-1)) hx hb dX12_done_17 rfl ?_
    rw [hQ]
    exact e_i F w hr hlocks ⟨_, rfl, ⟨by omega, by omega⟩, hI, hF⟩ dX12_done_18
  · refine lv_iload_n hx hb dX12_done_8 rfl (lv_at hl 2 rfl) ?_
    refine lv_iconst (v := zI 0) hx hb dX12_done_9 rfl ?_
    refine lv_iconst (v := zI 1) hx hb dX12_done_10 rfl ?_
    refine k_Si F w (As := [.int (zI x1), .int (zI 0), .int (zI 1)]) (rest := []) (q_X12_in (x := x1) ⟨by omega, by omega⟩ (x1 := 0) ⟨by omega, by omega⟩ (x2 := 1) ⟨by omega, by omega⟩  hI) gs_X12_55 hs_X12_in ⟨(Nat.le_of_ble_eq_true rfl), (Nat.le_of_ble_eq_true rfl)⟩ hl.1 rfl (Nat.le_of_ble_eq_true rfl) ⟨Nat.zero_le _, Nat.zero_le _⟩ dX12_done_11 (fun r5 N6 H locs hp w => ?_)
    obtain ⟨z7, rfl, bz7, xz7, hMN6⟩ := hp
    rw [hMN6] at w
    refine z_if_ne (tgt := 19) hx hb (by omega) dX12_done_14 (by decide) (fun c8 => ?_) (fun c8 => ?_)
    · refine lv_aload_n hx hb dX12_done_19 rfl (lv_at hl 0 rfl) ?_
      refine lv_iload_n hx hb dX12_done_20 rfl (lv_at hl 1 rfl) ?_
      refine k_Vi F w (As := [.int (zI x)]) (rest := []) (a := 146) (kd_lt (a := 146) (show kd 146 = (12, 0, 0) from rfl) (by decide)) (sh_12 rfl _ _) rfl (q_X12_derives (x := x) ⟨by omega, by omega⟩  hI) gv_X12_255 hv_X12_derives ⟨(Nat.le_of_ble_eq_true rfl), (Nat.le_of_ble_eq_true rfl)⟩ hl.1 rfl (Nat.le_of_ble_eq_true rfl) ⟨Nat.zero_le _, Nat.zero_le _⟩ dX12_done_21 (fun r9 N10 H locs hp w => ?_)
      obtain ⟨z11, rfl, bz11, hIN10, hFN10⟩ := hp
      have hGN10 := Fr.tr hF hFN10 (S := (fun b9 k9 => (b9 = 146 ∧ k9 = 3) ∨ (b9 = 146 ∧ k9 = 6) ∨ b9 = 148)) (fun b k h => by (try dsimp only at h ⊢); rcases h with ⟨rfl, rfl⟩ | ⟨rfl, rfl⟩ | rfl <;> first | decide | omega)
      refine lv_pop hx hb dX12_done_24 rfl ?_
      refine lv_aload_n hx hb dX12_done_25 rfl (lv_at hl 0 rfl) ?_
      refine lv_iload_n hx hb dX12_done_26 rfl (lv_at hl 1 rfl) ?_
      refine k_Vi F w (As := [.int (zI x)]) (rest := []) (a := 146) (kd_lt (a := 146) (show kd 146 = (12, 0, 0) from rfl) (by decide)) (sh_12 rfl _ _) rfl (q_X12_works (x := x) ⟨by omega, by omega⟩  hIN10) gv_X12_166 hv_X12_works ⟨(Nat.le_of_ble_eq_true rfl), (Nat.le_of_ble_eq_true rfl)⟩ hl.1 rfl (Nat.le_of_ble_eq_true rfl) ⟨Nat.zero_le _, Nat.zero_le _⟩ dX12_done_27 (fun r12 N13 H locs hp w => ?_)
      obtain ⟨z14, rfl, bz14, hIN13, hFN13⟩ := hp
      have hGN13 := Fr.tr hGN10 hFN13 (S := (fun b9 k9 => (b9 = 146 ∧ k9 = 3) ∨ (b9 = 146 ∧ k9 = 6) ∨ b9 = 148)) (fun b k h => by (try dsimp only at h ⊢); rcases h with ⟨rfl, rfl⟩ | ⟨rfl, rfl⟩ | rfl <;> first | decide | omega)
      refine lv_istore_n (lv' := [(3, .int (zI z14)), (0, .ref (B + 146)), (1, .int (zI x)), (2, .int (zI x1))]) hx hb dX12_done_30 rfl hl (by decide) rfl (fun ls hl => ?_)
      refine lv_iload_n hx hb dX12_done_31 rfl (lv_at hl 3 rfl) ?_
      refine z_if_ne (tgt := 39) hx hb (by omega) dX12_done_32 (by decide) (fun c15 => ?_) (fun c15 => ?_)
      · refine lv_aload_n hx hb dX12_done_39 rfl (lv_at hl 1 rfl) ?_
        refine f_12_6 F w (a := 146) rfl tb_576 dX12_done_40 ?_
        obtain ⟨z16, bz16, ez16⟩ := IvR.ld (k := 6) hIN13 (show ivr 146 6 = (0, 20) from rfl) (show 146 ≤ 146 ∧ 146 < 159 by decide)
        refine r_val ez16 ?_
        rw [hQ]
        exact e_i F w hr hlocks ⟨_, rfl, ⟨by omega, by omega⟩, hIN13, hGN13⟩ dX12_done_43
      · refine lv_iload_n hx hb dX12_done_35 rfl (lv_at hl 0 rfl) ?_
        refine lv_goto (tgt := 43) hx hb dX12_done_36 (by decide) ?_
        rw [hQ]
        exact e_i F w hr hlocks ⟨_, rfl, ⟨by omega, by omega⟩, hIN13, hGN13⟩ dX12_done_43
    · refine lv_iconst (v := zI (-1)) hx hb dX12_done_17 rfl ?_
      rw [hQ]
      exact e_i F w hr hlocks ⟨_, rfl, ⟨by omega, by omega⟩, hI, hF⟩ dX12_done_18
theorem dX12_laysDue_0 : decode cX12_laysDue 0 = .ok (.aload_n 0, 1) := dq0 kk_42 (by decide +kernel)
theorem dX12_laysDue_1 : decode cX12_laysDue 1 = .ok (.aload_n 0, 1) := dq0 kk_42 (by decide +kernel)
theorem dX12_laysDue_2 : decode cX12_laysDue 2 = .ok (.getfield 239, 3) := dqV kk_180 (by decide +kernel)
theorem dX12_laysDue_5 : decode cX12_laysDue 5 = .ok (.invokevirtual 255, 3) := dqV kk_182 (by decide +kernel)
theorem dX12_laysDue_8 : decode cX12_laysDue 8 = .ok (.pop, 1) := dq0 kk_87 (by decide +kernel)
theorem dX12_laysDue_9 : decode cX12_laysDue 9 = .ok (.iconst 0, 1) := dq0 kk_3 (by decide +kernel)
theorem dX12_laysDue_10 : decode cX12_laysDue 10 = .ok (.istore_n 1, 1) := dq0 kk_60 (by decide +kernel)
theorem dX12_laysDue_11 : decode cX12_laysDue 11 = .ok (.iload_n 1, 1) := dq0 kk_27 (by decide +kernel)
theorem dX12_laysDue_12 : decode cX12_laysDue 12 = .ok (.bipush 12, 2) := dqS kk_16 (by decide +kernel)
theorem dX12_laysDue_14 : decode cX12_laysDue 14 = .ok (.if_icmp .ge 35, 3) := dqT kk_162 (by decide +kernel)
theorem dX12_laysDue_17 : decode cX12_laysDue 17 = .ok (.aload_n 0, 1) := dq0 kk_42 (by decide +kernel)
theorem dX12_laysDue_18 : decode cX12_laysDue 18 = .ok (.getfield 45, 3) := dqV kk_180 (by decide +kernel)
theorem tb_643 : Cond.fieldLink "ToneLinesModel" 45 "ToneLinesModel" "due" "[I" ∈ TB := tbm (tc5 (List.mem_of_getElem? (i := 79) rfl)) rfl
theorem dX12_laysDue_21 : decode cX12_laysDue 21 = .ok (.iload_n 1, 1) := dq0 kk_27 (by decide +kernel)
theorem dX12_laysDue_22 : decode cX12_laysDue 22 = .ok (.iload_n 1, 1) := dq0 kk_27 (by decide +kernel)
theorem dX12_laysDue_23 : decode cX12_laysDue 23 = .ok (.aload_n 0, 1) := dq0 kk_42 (by decide +kernel)
theorem dX12_laysDue_24 : decode cX12_laysDue 24 = .ok (.getfield 17, 3) := dqV kk_180 (by decide +kernel)
theorem dX12_laysDue_27 : decode cX12_laysDue 27 = .ok (.bipush 25, 2) := dqS kk_16 (by decide +kernel)
theorem dX12_laysDue_29 : decode cX12_laysDue 29 = .ok (.iaload, 1) := dq0 kk_46 (by decide +kernel)
theorem dX12_laysDue_30 : decode cX12_laysDue 30 = .ok (.if_icmp .ge 11, 3) := dqT kk_162 (by decide +kernel)
theorem dX12_laysDue_41 : decode cX12_laysDue 41 = .ok (.iconst 0, 1) := dq0 kk_3 (by decide +kernel)
theorem dX12_laysDue_42 : decode cX12_laysDue 42 = .ok (.iastore, 1) := dq0 kk_79 (by decide +kernel)
theorem dX12_laysDue_43 : decode cX12_laysDue 43 = .ok (.iinc 1 1, 3) := dqI kk_132 (by decide +kernel)
theorem dX12_laysDue_46 : decode cX12_laysDue 46 = .ok (.goto (-35), 3) := dqT kk_167 (by decide +kernel)
theorem dX12_laysDue_33 : decode cX12_laysDue 33 = .ok (.aload_n 0, 1) := dq0 kk_42 (by decide +kernel)
theorem dX12_laysDue_34 : decode cX12_laysDue 34 = .ok (.iload_n 1, 1) := dq0 kk_27 (by decide +kernel)
theorem dX12_laysDue_35 : decode cX12_laysDue 35 = .ok (.invokevirtual 288, 3) := dqV kk_182 (by decide +kernel)
theorem dX12_laysDue_38 : decode cX12_laysDue 38 = .ok (.goto 4, 3) := dqT kk_167 (by decide +kernel)
theorem dX12_laysDue_49 : decode cX12_laysDue 49 = .ok (.return_, 1) := dq0 kk_177 (by decide +kernel)
set_option maxRecDepth 4000 in
theorem q_X12_laysDue {l : Launch} {D : va_G} {B : Nat} {cy : Nat → ClassId} {M : Mem}  (hI : IvR M) : Cv l D B cy yX12_laysDue cX12_laysDue 2 9 212 [.ref (B + 146)] M (fun M1 => IvR M1 ∧ Fr (fun b9 k9 => (b9 = 146 ∧ k9 = 3) ∨ (b9 = 146 ∧ k9 = 6) ∨ b9 = 148 ∨ b9 = 157) M1 M) := by
  refine s_anyQ (by decide) (Nat.le_of_ble_eq_true rfl) ?_
  intro p e s m args below meth c ls Q F hr hlocks hQ w hl
  have F : CallFix p m c cX12_laysDue 2 s args TB RX12 := F
  have hx := F.1
  have hb := F.2.1
  have hl : lv_has ls 2 [(0, .ref (B + 146))] := hl
  have hF : Fr (fun b9 k9 => (b9 = 146 ∧ k9 = 3) ∨ (b9 = 146 ∧ k9 = 6) ∨ b9 = 148 ∨ b9 = 157) M M := Fr.rf
  refine lv_aload_n hx hb dX12_laysDue_0 rfl (lv_at hl 0 rfl) ?_
  refine lv_aload_n hx hb dX12_laysDue_1 rfl (lv_at hl 0 rfl) ?_
  refine f_12_5 F w (a := 146) rfl tb_604 dX12_laysDue_2 ?_
  obtain ⟨z1, bz1, ez1⟩ := IvR.ld (k := 5) hI (show ivr 146 5 = (0, 8) from rfl) (show 146 ≤ 146 ∧ 146 < 159 by decide)
  refine r_val ez1 ?_
  refine k_Vi F w (As := [.int (zI z1)]) (rest := []) (a := 146) (kd_lt (a := 146) (show kd 146 = (12, 0, 0) from rfl) (by decide)) (sh_12 rfl _ _) rfl (q_X12_derives (x := z1) ⟨by omega, by omega⟩  hI) gv_X12_255 hv_X12_derives ⟨(Nat.le_of_ble_eq_true rfl), (Nat.le_of_ble_eq_true rfl)⟩ hl.1 rfl (Nat.le_of_ble_eq_true rfl) ⟨Nat.zero_le _, Nat.zero_le _⟩ dX12_laysDue_5 (fun r2 N3 H locs hp w => ?_)
  obtain ⟨z4, rfl, bz4, hIN3, hFN3⟩ := hp
  have hGN3 := Fr.tr hF hFN3 (S := (fun b9 k9 => (b9 = 146 ∧ k9 = 3) ∨ (b9 = 146 ∧ k9 = 6) ∨ b9 = 148 ∨ b9 = 157)) (fun b k h => by (try dsimp only at h ⊢); rcases h with ⟨rfl, rfl⟩ | ⟨rfl, rfl⟩ | rfl <;> first | decide | omega)
  have kn5 : N3.1 146 5 = zI z1 := (hFN3 146 5 (by first | decide | (dsimp only; first | done | decide | omega) | omega)).trans (ez1)
  refine lv_pop hx hb dX12_laysDue_8 rfl ?_
  refine lv_iconst (v := zI 0) hx hb dX12_laysDue_9 rfl ?_
  refine lv_istore_n (lv' := [(1, .int (zI 0)), (0, .ref (B + 146))]) hx hb dX12_laysDue_10 rfl hl (by decide) rfl (fun ls hl => ?_)
  have lp11 : ∀ (f : Nat) (v1_11 : Int)  (NL11 : Mem), (0 ≤ v1_11 ∧ v1_11 ≤ 12) → NL11.1 146 5 = zI z1 → IvR NL11 → Fr (fun b9 k9 => (b9 = 146 ∧ k9 = 3) ∨ (b9 = 146 ∧ k9 = 6) ∨ b9 = 148 ∨ b9 = 157) NL11 M → (Int.toNat (12 - v1_11) < f) → ∀ (H : Heap) (locs : List Loc) (ls : Array Slot), Wd D B cy s s.heap NL11 H locs → lv_has ls 2 [(1, .int (zI v1_11)), (0, .ref (B + 146))] → W p l e (rmm 9 212) s m args below meth c H locs 0 0 Q (F0 m 11 ls []) := by
    intro f
    induction f with
    | zero => intros; omega
    | succ f ih11 =>
      intro v1_11  NL11 iv1_11 eg146_5_11 hIL11 hFL11 hf11 H locs ls w hl
      refine lv_iload_n hx hb dX12_laysDue_11 rfl (lv_at hl 0 rfl) ?_
      refine lv_bipush (v := zI 12) hx hb dX12_laysDue_12 (by decide) ?_
      refine z_icmp_ge (tgt := 49) hx hb (by omega) (by omega) dX12_laysDue_14 (by decide) (fun c6 => ?_) (fun c6 => ?_)
      · rw [hQ]
        exact e_v F w hr hlocks ⟨hIL11, hFL11⟩ dX12_laysDue_49
      · refine lv_aload_n hx hb dX12_laysDue_17 rfl (lv_at hl 1 rfl) ?_
        refine f_12_23 F w (a := 146) rfl tb_643 dX12_laysDue_18 ?_
        refine lv_iload_n hx hb dX12_laysDue_21 rfl (lv_at hl 0 rfl) ?_
        refine lv_iload_n hx hb dX12_laysDue_22 rfl (lv_at hl 0 rfl) ?_
        refine lv_aload_n hx hb dX12_laysDue_23 rfl (lv_at hl 1 rfl) ?_
        refine f_12_2 F w (a := 146) rfl tb_45 dX12_laysDue_24 ?_
        refine lv_bipush (v := zI 25) hx hb dX12_laysDue_27 (by decide) ?_
        refine g_iald F w (a := 148) rfl (j := 25) ⟨by decide, by decide⟩ (by omega) dX12_laysDue_29 ?_
        obtain ⟨z7, bz7, ez7⟩ := IvR.ld (k := 25) hIL11 (show ivr 148 25 = (0, 12) from rfl) (show 146 ≤ 148 ∧ 148 < 159 by decide)
        refine r_val ez7 ?_
        refine z_icmp_ge (tgt := 41) hx hb (by omega) (by omega) dX12_laysDue_30 (by decide) (fun c8 => ?_) (fun c8 => ?_)
        · refine lv_iconst (v := zI 0) hx hb dX12_laysDue_41 rfl ?_
          refine g_iast F w (a := 157) rfl (j := (Int.toNat v1_11)) (ix_z (by omega) (by omega)) (by omega) dX12_laysDue_42 (fun H locs w => ?_)
          refine z_iinc (v := (v1_11 + 1)) (lv' := [(1, .int (zI (v1_11 + 1))), (0, .ref (B + 146))]) hx hb dX12_laysDue_43 hl (k := 0) rfl (by omega) (by decide) rfl (fun ls hl => ?_)
          refine lv_goto (tgt := 11) hx hb dX12_laysDue_46 (by decide) ?_
          exact ih11 (v1_11 + 1) (st NL11 157 (Int.toNat v1_11) (zI 0)) (by omega)  ((st_ne (Or.inl (by decide))).trans eg146_5_11)  (IvR.to hIL11 (a := 157) (k := (Int.toNat v1_11)) (x := 0) (show ivr 157 (Int.toNat v1_11) = ((-2147483648), 2147483647) from rfl) ⟨by omega, by omega⟩ ⟨by decide, by decide, by decide, fun q9 => absurd q9 (by decide)⟩) (Fr.to hFL11 (by first | decide | (dsimp only; first | done | decide | omega) | omega)) (by omega) _ _ _ w (lv_sub hl [0, 1] rfl)
        · refine lv_aload_n hx hb dX12_laysDue_33 rfl (lv_at hl 1 rfl) ?_
          refine lv_iload_n hx hb dX12_laysDue_34 rfl (lv_at hl 0 rfl) ?_
          refine k_Vi F w (As := [.int (zI v1_11)]) (rest := [.int (zI v1_11), .ref (B + 157)]) (a := 146) (kd_lt (a := 146) (show kd 146 = (12, 0, 0) from rfl) (by decide)) (sh_12 rfl _ _) rfl (q_X12_reading (y := v1_11) ⟨by omega, by omega⟩  hIL11) gv_X12_288 hv_X12_reading ⟨(Nat.le_of_ble_eq_true rfl), (Nat.le_of_ble_eq_true rfl)⟩ hl.1 rfl (Nat.le_of_ble_eq_true rfl) ⟨Nat.zero_le _, Nat.zero_le _⟩ dX12_laysDue_35 (fun r9 N10 H locs hp w => ?_)
          obtain ⟨z11, rfl, bz11, hMN10⟩ := hp
          rw [hMN10] at w
          refine lv_goto (tgt := 42) hx hb dX12_laysDue_38 (by decide) ?_
          refine g_iast F w (a := 157) rfl (j := (Int.toNat v1_11)) (ix_z (by omega) (by omega)) (by omega) dX12_laysDue_42 (fun H locs w => ?_)
          refine z_iinc (v := (v1_11 + 1)) (lv' := [(1, .int (zI (v1_11 + 1))), (0, .ref (B + 146))]) hx hb dX12_laysDue_43 hl (k := 0) rfl (by omega) (by decide) rfl (fun ls hl => ?_)
          refine lv_goto (tgt := 11) hx hb dX12_laysDue_46 (by decide) ?_
          exact ih11 (v1_11 + 1) (st NL11 157 (Int.toNat v1_11) (zI z11)) (by omega)  ((st_ne (Or.inl (by decide))).trans eg146_5_11)  (IvR.to hIL11 (a := 157) (k := (Int.toNat v1_11)) (x := z11) (show ivr 157 (Int.toNat v1_11) = ((-2147483648), 2147483647) from rfl) ⟨by omega, by omega⟩ ⟨by decide, by decide, by decide, fun q9 => absurd q9 (by decide)⟩) (Fr.to hFL11 (by first | decide | (dsimp only; first | done | decide | omega) | omega)) (by omega) _ _ _ w (lv_sub hl [0, 1] rfl)
  exact lp11 _ 0 N3 (by omega) (kn5) hIN3 hGN3 (Nat.lt_succ_self _) _ _ _ w (lv_sub hl [0, 1] rfl)
theorem dX12_isDue_0 : decode cX12_isDue 0 = .ok (.iconst 0, 1) := dq0 kk_3 (by decide +kernel)
theorem dX12_isDue_1 : decode cX12_isDue 1 = .ok (.istore_n 1, 1) := dq0 kk_60 (by decide +kernel)
theorem dX12_isDue_2 : decode cX12_isDue 2 = .ok (.iload_n 1, 1) := dq0 kk_27 (by decide +kernel)
theorem dX12_isDue_3 : decode cX12_isDue 3 = .ok (.aload_n 0, 1) := dq0 kk_42 (by decide +kernel)
theorem dX12_isDue_4 : decode cX12_isDue 4 = .ok (.getfield 17, 3) := dqV kk_180 (by decide +kernel)
theorem dX12_isDue_7 : decode cX12_isDue 7 = .ok (.bipush 25, 2) := dqS kk_16 (by decide +kernel)
theorem dX12_isDue_9 : decode cX12_isDue 9 = .ok (.iaload, 1) := dq0 kk_46 (by decide +kernel)
theorem dX12_isDue_10 : decode cX12_isDue 10 = .ok (.if_icmp .ge 25, 3) := dqT kk_162 (by decide +kernel)
theorem dX12_isDue_35 : decode cX12_isDue 35 = .ok (.iconst 1, 1) := dq0 kk_4 (by decide +kernel)
theorem dX12_isDue_36 : decode cX12_isDue 36 = .ok (.ireturn, 1) := dq0 kk_172 (by decide +kernel)
theorem dX12_isDue_13 : decode cX12_isDue 13 = .ok (.aload_n 0, 1) := dq0 kk_42 (by decide +kernel)
theorem dX12_isDue_14 : decode cX12_isDue 14 = .ok (.iload_n 1, 1) := dq0 kk_27 (by decide +kernel)
theorem dX12_isDue_15 : decode cX12_isDue 15 = .ok (.invokevirtual 288, 3) := dqV kk_182 (by decide +kernel)
theorem dX12_isDue_18 : decode cX12_isDue 18 = .ok (.aload_n 0, 1) := dq0 kk_42 (by decide +kernel)
theorem dX12_isDue_19 : decode cX12_isDue 19 = .ok (.getfield 45, 3) := dqV kk_180 (by decide +kernel)
theorem dX12_isDue_22 : decode cX12_isDue 22 = .ok (.iload_n 1, 1) := dq0 kk_27 (by decide +kernel)
theorem dX12_isDue_23 : decode cX12_isDue 23 = .ok (.iaload, 1) := dq0 kk_46 (by decide +kernel)
theorem dX12_isDue_24 : decode cX12_isDue 24 = .ok (.if_icmp .eq 5, 3) := dqT kk_159 (by decide +kernel)
theorem dX12_isDue_29 : decode cX12_isDue 29 = .ok (.iinc 1 1, 3) := dqI kk_132 (by decide +kernel)
theorem dX12_isDue_32 : decode cX12_isDue 32 = .ok (.goto (-30), 3) := dqT kk_167 (by decide +kernel)
theorem dX12_isDue_27 : decode cX12_isDue 27 = .ok (.iconst 0, 1) := dq0 kk_3 (by decide +kernel)
theorem dX12_isDue_28 : decode cX12_isDue 28 = .ok (.ireturn, 1) := dq0 kk_172 (by decide +kernel)
set_option maxRecDepth 4000 in
theorem q_X12_isDue {l : Launch} {D : va_G} {B : Nat} {cy : Nat → ClassId} {M : Mem}  (hI : IvR M) : Ci l D B cy yX12_isDue cX12_isDue 2 (some .boolean) 2 45 [.ref (B + 146)] M (fun r M1 => ∃ z : Int, r = zI z ∧ (0 ≤ z ∧ z ≤ 1) ∧ M1 = M) := by
  refine s_anyQ (by decide) (Nat.le_of_ble_eq_true rfl) ?_
  intro p e s m args below meth c ls Q F hr hlocks hQ w hl
  have F : CallFix p m c cX12_isDue 2 s args TB RX12 := F
  have hx := F.1
  have hb := F.2.1
  have hl : lv_has ls 2 [(0, .ref (B + 146))] := hl
  refine lv_iconst (v := zI 0) hx hb dX12_isDue_0 rfl ?_
  refine lv_istore_n (lv' := [(1, .int (zI 0)), (0, .ref (B + 146))]) hx hb dX12_isDue_1 rfl hl (by decide) rfl (fun ls hl => ?_)
  have lp2 : ∀ (f : Nat) (v1_2 : Int), (0 ≤ v1_2 ∧ v1_2 ≤ 12) → (Int.toNat (12 - v1_2) < f) → ∀ (H : Heap) (locs : List Loc) (ls : Array Slot), Wd D B cy s s.heap M H locs → lv_has ls 2 [(1, .int (zI v1_2)), (0, .ref (B + 146))] → W p l e (rmm 2 45) s m args below meth c H locs 0 0 Q (F0 m 2 ls []) := by
    intro f
    induction f with
    | zero => intros; omega
    | succ f ih2 =>
      intro v1_2  iv1_2 hf2 H locs ls w hl
      refine lv_iload_n hx hb dX12_isDue_2 rfl (lv_at hl 0 rfl) ?_
      refine lv_aload_n hx hb dX12_isDue_3 rfl (lv_at hl 1 rfl) ?_
      refine f_12_2 F w (a := 146) rfl tb_45 dX12_isDue_4 ?_
      refine lv_bipush (v := zI 25) hx hb dX12_isDue_7 (by decide) ?_
      refine g_iald F w (a := 148) rfl (j := 25) ⟨by decide, by decide⟩ (by omega) dX12_isDue_9 ?_
      obtain ⟨z1, bz1, ez1⟩ := IvR.ld (k := 25) hI (show ivr 148 25 = (0, 12) from rfl) (show 146 ≤ 148 ∧ 148 < 159 by decide)
      refine r_val ez1 ?_
      refine z_icmp_ge (tgt := 35) hx hb (by omega) (by omega) dX12_isDue_10 (by decide) (fun c2 => ?_) (fun c2 => ?_)
      · refine lv_iconst (v := zI 1) hx hb dX12_isDue_35 rfl ?_
        rw [hQ]
        exact e_z F w hr hlocks (nar_z (by omega)) ⟨_, rfl, ⟨by omega, by omega⟩, rfl⟩ dX12_isDue_36
      · refine lv_aload_n hx hb dX12_isDue_13 rfl (lv_at hl 1 rfl) ?_
        refine lv_iload_n hx hb dX12_isDue_14 rfl (lv_at hl 0 rfl) ?_
        refine k_Vi F w (As := [.int (zI v1_2)]) (rest := []) (a := 146) (kd_lt (a := 146) (show kd 146 = (12, 0, 0) from rfl) (by decide)) (sh_12 rfl _ _) rfl (q_X12_reading (y := v1_2) ⟨by omega, by omega⟩  hI) gv_X12_288 hv_X12_reading ⟨(Nat.le_of_ble_eq_true rfl), (Nat.le_of_ble_eq_true rfl)⟩ hl.1 rfl (Nat.le_of_ble_eq_true rfl) ⟨Nat.zero_le _, Nat.zero_le _⟩ dX12_isDue_15 (fun r3 N4 H locs hp w => ?_)
        obtain ⟨z5, rfl, bz5, hMN4⟩ := hp
        rw [hMN4] at w
        refine lv_aload_n hx hb dX12_isDue_18 rfl (lv_at hl 1 rfl) ?_
        refine f_12_23 F w (a := 146) rfl tb_643 dX12_isDue_19 ?_
        refine lv_iload_n hx hb dX12_isDue_22 rfl (lv_at hl 0 rfl) ?_
        refine g_iald F w (a := 157) rfl (j := (Int.toNat v1_2)) (ix_z (by omega) (by omega)) (by omega) dX12_isDue_23 ?_
        obtain ⟨z6, bz6, ez6⟩ := IvR.ld (k := (Int.toNat v1_2)) hI (show ivr 157 (Int.toNat v1_2) = ((-2147483648), 2147483647) from rfl) (show 146 ≤ 157 ∧ 157 < 159 by decide)
        refine r_val ez6 ?_
        refine z_icmp_eq (tgt := 29) hx hb (by omega) (by omega) dX12_isDue_24 (by decide) (fun c7 => ?_) (fun c7 => ?_)
        · refine z_iinc (v := (v1_2 + 1)) (lv' := [(1, .int (zI (v1_2 + 1))), (0, .ref (B + 146))]) hx hb dX12_isDue_29 hl (k := 0) rfl (by omega) (by decide) rfl (fun ls hl => ?_)
          refine lv_goto (tgt := 2) hx hb dX12_isDue_32 (by decide) ?_
          exact ih2 (v1_2 + 1) (by omega)     (by omega) _ _ _ w (lv_sub hl [0, 1] rfl)
        · refine lv_iconst (v := zI 0) hx hb dX12_isDue_27 rfl ?_
          rw [hQ]
          exact e_z F w hr hlocks (nar_z (by omega)) ⟨_, rfl, ⟨by omega, by omega⟩, rfl⟩ dX12_isDue_28
  exact lp2 _ 0 (by omega) (Nat.lt_succ_self _) _ _ _ w (lv_sub hl [0, 1] rfl)
theorem dX12_exchanged_0 : decode cX12_exchanged 0 = .ok (.iload_n 1, 1) := dq0 kk_27 (by decide +kernel)
theorem dX12_exchanged_1 : decode cX12_exchanged 1 = .ok (.iconst 0, 1) := dq0 kk_3 (by decide +kernel)
theorem dX12_exchanged_2 : decode cX12_exchanged 2 = .ok (.aload_n 0, 1) := dq0 kk_42 (by decide +kernel)
theorem dX12_exchanged_3 : decode cX12_exchanged 3 = .ok (.getfield 239, 3) := dqV kk_180 (by decide +kernel)
theorem dX12_exchanged_6 : decode cX12_exchanged 6 = .ok (.iconst 2, 1) := dq0 kk_5 (by decide +kernel)
theorem dX12_exchanged_7 : decode cX12_exchanged 7 = .ok (.isub, 1) := dq0 kk_100 (by decide +kernel)
theorem dX12_exchanged_8 : decode cX12_exchanged 8 = .ok (.invokestatic 55, 3) := dqV kk_184 (by decide +kernel)
theorem dX12_exchanged_11 : decode cX12_exchanged 11 = .ok (.ifCond .ne 5, 3) := dqT kk_154 (by decide +kernel)
theorem dX12_exchanged_16 : decode cX12_exchanged 16 = .ok (.aload_n 0, 1) := dq0 kk_42 (by decide +kernel)
theorem dX12_exchanged_17 : decode cX12_exchanged 17 = .ok (.invokevirtual 303, 3) := dqV kk_182 (by decide +kernel)
theorem tk_X12_laysDue : Cond.code yX12_laysDue cX12_laysDue 2 none ∈ TB := tbm (tc7 (List.mem_of_getElem? (i := 0) rfl)) rfl
theorem gc_X12_laysDue : GoodIn TB (cw yX12_laysDue cX12_laysDue 2 none) := goodIn_c2 tk_X12_laysDue
theorem tb_644 : Cond.methodLink "ToneLinesModel" 303 yX12_laysDue ∈ TB := tbm (tc6 (List.mem_of_getElem? (i := 237) rfl)) rfl
theorem tb_645 : Cond.instanceMethod yX12_laysDue ∈ TB := tbm (tc6 (List.mem_of_getElem? (i := 239) rfl)) rfl
theorem tb_646 : Cond.selects "ToneLinesModel" yX12_laysDue yX12_laysDue ∈ TB := tbp (List.mem_of_getElem? (i := 85) rfl) rfl
theorem gv_X12_303 : GoodIn TB (wsV RX12 303 RX12 yX12_laysDue (cw yX12_laysDue cX12_laysDue 2 none)) := goodIn_4 tb_644 tb_645 tb_646 tb_38 gc_X12_laysDue
theorem hv_X12_laysDue : yX12_laysDue.cls = RX12 ∧ yX12_laysDue.cls ≠ "java/lang/invoke/MethodHandle" ∧ yX12_laysDue.cls ≠ "java/lang/invoke/VarHandle" ∧ (parseMethodDescriptor yX12_laysDue.desc).map (fun d => d.parameters.length) = some 0 := by decide +kernel
theorem dX12_exchanged_20 : decode cX12_exchanged 20 = .ok (.aload_n 0, 1) := dq0 kk_42 (by decide +kernel)
theorem dX12_exchanged_21 : decode cX12_exchanged 21 = .ok (.getfield 17, 3) := dqV kk_180 (by decide +kernel)
theorem dX12_exchanged_24 : decode cX12_exchanged 24 = .ok (.aload_n 0, 1) := dq0 kk_42 (by decide +kernel)
theorem dX12_exchanged_25 : decode cX12_exchanged 25 = .ok (.getfield 13, 3) := dqV kk_180 (by decide +kernel)
theorem dX12_exchanged_28 : decode cX12_exchanged 28 = .ok (.invokestatic 162, 3) := dqV kk_184 (by decide +kernel)
theorem dX12_exchanged_31 : decode cX12_exchanged 31 = .ok (.iconst 0, 1) := dq0 kk_3 (by decide +kernel)
theorem dX12_exchanged_32 : decode cX12_exchanged 32 = .ok (.istore_n 2, 1) := dq0 kk_61 (by decide +kernel)
theorem dX12_exchanged_33 : decode cX12_exchanged 33 = .ok (.iload_n 2, 1) := dq0 kk_28 (by decide +kernel)
theorem dX12_exchanged_34 : decode cX12_exchanged 34 = .ok (.aload_n 0, 1) := dq0 kk_42 (by decide +kernel)
theorem dX12_exchanged_35 : decode cX12_exchanged 35 = .ok (.getfield 239, 3) := dqV kk_180 (by decide +kernel)
theorem dX12_exchanged_38 : decode cX12_exchanged 38 = .ok (.if_icmp .ge 37, 3) := dqT kk_162 (by decide +kernel)
theorem dX12_exchanged_75 : decode cX12_exchanged 75 = .ok (.aload_n 0, 1) := dq0 kk_42 (by decide +kernel)
theorem dX12_exchanged_76 : decode cX12_exchanged 76 = .ok (.invokevirtual 306, 3) := dqV kk_182 (by decide +kernel)
theorem tk_X12_isDue : Cond.code yX12_isDue cX12_isDue 2 (some .boolean) ∈ TB := tbm (tc7 (List.mem_of_getElem? (i := 4) rfl)) rfl
theorem gc_X12_isDue : GoodIn TB (cw yX12_isDue cX12_isDue 2 (some .boolean)) := goodIn_c2 tk_X12_isDue
theorem tb_647 : Cond.methodLink "ToneLinesModel" 306 yX12_isDue ∈ TB := tbm (tc7 (List.mem_of_getElem? (i := 1) rfl)) rfl
theorem tb_648 : Cond.instanceMethod yX12_isDue ∈ TB := tbm (tc7 (List.mem_of_getElem? (i := 3) rfl)) rfl
theorem tb_649 : Cond.selects "ToneLinesModel" yX12_isDue yX12_isDue ∈ TB := tbp (List.mem_of_getElem? (i := 86) rfl) rfl
theorem gv_X12_306 : GoodIn TB (wsV RX12 306 RX12 yX12_isDue (cw yX12_isDue cX12_isDue 2 (some .boolean))) := goodIn_4 tb_647 tb_648 tb_649 tb_38 gc_X12_isDue
theorem hv_X12_isDue : yX12_isDue.cls = RX12 ∧ yX12_isDue.cls ≠ "java/lang/invoke/MethodHandle" ∧ yX12_isDue.cls ≠ "java/lang/invoke/VarHandle" ∧ (parseMethodDescriptor yX12_isDue.desc).map (fun d => d.parameters.length) = some 0 := by decide +kernel
theorem dX12_exchanged_79 : decode cX12_exchanged 79 = .ok (.ifCond .eq 7, 3) := dqT kk_153 (by decide +kernel)
theorem dX12_exchanged_86 : decode cX12_exchanged 86 = .ok (.iconst 1, 1) := dq0 kk_4 (by decide +kernel)
theorem dX12_exchanged_87 : decode cX12_exchanged 87 = .ok (.ireturn, 1) := dq0 kk_172 (by decide +kernel)
theorem dX12_exchanged_82 : decode cX12_exchanged 82 = .ok (.iconst 0, 1) := dq0 kk_3 (by decide +kernel)
theorem dX12_exchanged_83 : decode cX12_exchanged 83 = .ok (.goto 4, 3) := dqT kk_167 (by decide +kernel)
theorem dX12_exchanged_41 : decode cX12_exchanged 41 = .ok (.aload_n 0, 1) := dq0 kk_42 (by decide +kernel)
theorem dX12_exchanged_42 : decode cX12_exchanged 42 = .ok (.iload_n 2, 1) := dq0 kk_28 (by decide +kernel)
theorem dX12_exchanged_43 : decode cX12_exchanged 43 = .ok (.iload_n 1, 1) := dq0 kk_27 (by decide +kernel)
theorem dX12_exchanged_44 : decode cX12_exchanged 44 = .ok (.if_icmp .ne 9, 3) := dqT kk_160 (by decide +kernel)
theorem dX12_exchanged_53 : decode cX12_exchanged 53 = .ok (.iload_n 2, 1) := dq0 kk_28 (by decide +kernel)
theorem dX12_exchanged_54 : decode cX12_exchanged 54 = .ok (.iload_n 1, 1) := dq0 kk_27 (by decide +kernel)
theorem dX12_exchanged_55 : decode cX12_exchanged 55 = .ok (.iconst 1, 1) := dq0 kk_4 (by decide +kernel)
theorem dX12_exchanged_56 : decode cX12_exchanged 56 = .ok (.iadd, 1) := dq0 kk_96 (by decide +kernel)
theorem dX12_exchanged_57 : decode cX12_exchanged 57 = .ok (.if_icmp .ne 7, 3) := dqT kk_160 (by decide +kernel)
theorem dX12_exchanged_64 : decode cX12_exchanged 64 = .ok (.iload_n 2, 1) := dq0 kk_28 (by decide +kernel)
theorem dX12_exchanged_65 : decode cX12_exchanged 65 = .ok (.invokevirtual 166, 3) := dqV kk_182 (by decide +kernel)
theorem dX12_exchanged_68 : decode cX12_exchanged 68 = .ok (.pop, 1) := dq0 kk_87 (by decide +kernel)
theorem dX12_exchanged_69 : decode cX12_exchanged 69 = .ok (.iinc 2 1, 3) := dqI kk_132 (by decide +kernel)
theorem dX12_exchanged_72 : decode cX12_exchanged 72 = .ok (.goto (-39), 3) := dqT kk_167 (by decide +kernel)
theorem dX12_exchanged_60 : decode cX12_exchanged 60 = .ok (.iload_n 1, 1) := dq0 kk_27 (by decide +kernel)
theorem dX12_exchanged_61 : decode cX12_exchanged 61 = .ok (.goto 4, 3) := dqT kk_167 (by decide +kernel)
theorem dX12_exchanged_47 : decode cX12_exchanged 47 = .ok (.iload_n 1, 1) := dq0 kk_27 (by decide +kernel)
theorem dX12_exchanged_48 : decode cX12_exchanged 48 = .ok (.iconst 1, 1) := dq0 kk_4 (by decide +kernel)
theorem dX12_exchanged_49 : decode cX12_exchanged 49 = .ok (.iadd, 1) := dq0 kk_96 (by decide +kernel)
theorem dX12_exchanged_50 : decode cX12_exchanged 50 = .ok (.goto 15, 3) := dqT kk_167 (by decide +kernel)
theorem dX12_exchanged_14 : decode cX12_exchanged 14 = .ok (.iconst (-1), 1) := dq0 kk_2 (by decide +kernel)
theorem dX12_exchanged_15 : decode cX12_exchanged 15 = .ok (.ireturn, 1) := dq0 kk_172 (by decide +kernel)
set_option maxRecDepth 4000 in
theorem q_X12_exchanged {l : Launch} {D : va_G} {B : Nat} {cy : Nat → ClassId} {M : Mem} {x : Int} (hx : (-2147483648) ≤ x ∧ x ≤ 2147483647) (hI : IvR M) : Ci l D B cy yX12_exchanged cX12_exchanged 3 (some .int) 10 233 [.ref (B + 146), .int (zI x)] M (fun r M1 => ∃ z : Int, r = zI z ∧ ((-1) ≤ z ∧ z ≤ 1) ∧ IvR M1 ∧ Fr (fun b9 k9 => (b9 = 146 ∧ k9 = 3) ∨ (b9 = 146 ∧ k9 = 6) ∨ b9 = 148 ∨ b9 = 157) M1 M) := by
  refine s_anyQ (by decide) (Nat.le_of_ble_eq_true rfl) ?_
  intro p e s m args below meth c ls Q F hr hlocks hQ w hl
  have F : CallFix p m c cX12_exchanged 3 s args TB RX12 := F
  have hx := F.1
  have hb := F.2.1
  have hl : lv_has ls 3 [(0, .ref (B + 146)), (1, .int (zI x))] := hl
  have hF : Fr (fun b9 k9 => (b9 = 146 ∧ k9 = 3) ∨ (b9 = 146 ∧ k9 = 6) ∨ b9 = 148 ∨ b9 = 157) M M := Fr.rf
  refine lv_iload_n hx hb dX12_exchanged_0 rfl (lv_at hl 1 rfl) ?_
  refine lv_iconst (v := zI 0) hx hb dX12_exchanged_1 rfl ?_
  refine lv_aload_n hx hb dX12_exchanged_2 rfl (lv_at hl 0 rfl) ?_
  refine f_12_5 F w (a := 146) rfl tb_604 dX12_exchanged_3 ?_
  obtain ⟨z1, bz1, ez1⟩ := IvR.ld (k := 5) hI (show ivr 146 5 = (0, 8) from rfl) (show 146 ≤ 146 ∧ 146 < 159 by decide)
  refine r_val ez1 ?_
  refine lv_iconst (v := zI 2) hx hb dX12_exchanged_6 rfl ?_
  refine z_isub (z := (z1 - 2)) hx hb dX12_exchanged_7 (by omega) ?_
  refine k_Si F w (As := [.int (zI x), .int (zI 0), .int (zI (z1 - 2))]) (rest := []) (q_X12_in (x := x) ⟨by omega, by omega⟩ (x1 := 0) ⟨by omega, by omega⟩ (x2 := (z1 - 2)) ⟨by omega, by omega⟩  hI) gs_X12_55 hs_X12_in ⟨(Nat.le_of_ble_eq_true rfl), (Nat.le_of_ble_eq_true rfl)⟩ hl.1 rfl (Nat.le_of_ble_eq_true rfl) ⟨Nat.zero_le _, Nat.zero_le _⟩ dX12_exchanged_8 (fun r2 N3 H locs hp w => ?_)
  obtain ⟨z4, rfl, bz4, xz4, hMN3⟩ := hp
  rw [hMN3] at w
  refine z_if_ne (tgt := 16) hx hb (by omega) dX12_exchanged_11 (by decide) (fun c5 => ?_) (fun c5 => ?_)
  · refine lv_aload_n hx hb dX12_exchanged_16 rfl (lv_at hl 0 rfl) ?_
    refine k_Vv F w (As := []) (rest := []) (a := 146) (kd_lt (a := 146) (show kd 146 = (12, 0, 0) from rfl) (by decide)) (sh_12 rfl _ _) rfl (q_X12_laysDue   hI) gv_X12_303 hv_X12_laysDue ⟨(Nat.le_of_ble_eq_true rfl), (Nat.le_of_ble_eq_true rfl)⟩ hl.1 rfl (Nat.le_of_ble_eq_true rfl) ⟨Nat.zero_le _, Nat.zero_le _⟩ dX12_exchanged_17 (fun N7 H locs hp w => ?_)
    obtain ⟨hIN7, hFN7⟩ := hp
    have hGN7 := Fr.tr hF hFN7 (S := (fun b9 k9 => (b9 = 146 ∧ k9 = 3) ∨ (b9 = 146 ∧ k9 = 6) ∨ b9 = 148 ∨ b9 = 157)) (fun b k h => by (try dsimp only at h ⊢); rcases h with ⟨rfl, rfl⟩ | ⟨rfl, rfl⟩ | rfl | rfl <;> first | decide | omega)
    have kn9 : N7.1 146 5 = zI z1 := (hFN7 146 5 (by first | decide | (dsimp only; first | done | decide | omega) | omega)).trans (ez1)
    refine lv_aload_n hx hb dX12_exchanged_20 rfl (lv_at hl 0 rfl) ?_
    refine f_12_2 F w (a := 146) rfl tb_45 dX12_exchanged_21 ?_
    refine lv_aload_n hx hb dX12_exchanged_24 rfl (lv_at hl 0 rfl) ?_
    refine f_12_1 F w (a := 146) rfl tb_580 dX12_exchanged_25 ?_
    obtain ⟨z10, bz10, ez10⟩ := IvR.ld (k := 0) hIN7 (show ivr 147 0 = (0, 12) from rfl) (show 146 ≤ 147 ∧ 147 < 159 by decide)
    refine k_Sv F w (As := [.ref (B + 148), .ref (B + 147)]) (rest := []) (q_copy_148_147 (nn := z10) (ez10) ⟨by omega, by omega⟩  hIN7) gs_X12_162 hs_X12_copy ⟨(Nat.le_of_ble_eq_true rfl), (Nat.le_of_ble_eq_true rfl)⟩ hl.1 rfl (Nat.le_of_ble_eq_true rfl) ⟨Nat.zero_le _, Nat.zero_le _⟩ dX12_exchanged_28 (fun N12 H locs hp w => ?_)
    obtain ⟨yN12_148_0, hIN12, hFN12⟩ := hp
    have hGN12 := Fr.tr hGN7 hFN12 (S := (fun b9 k9 => (b9 = 146 ∧ k9 = 3) ∨ (b9 = 146 ∧ k9 = 6) ∨ b9 = 148 ∨ b9 = 157)) (fun b k h => by (try dsimp only at h ⊢); rcases h with rfl <;> first | decide | omega)
    have kn14 : N12.1 146 5 = zI z1 := (hFN12 146 5 (by first | decide | (dsimp only; first | done | decide | omega) | omega)).trans (kn9)
    have kn15 : N12.1 147 0 = zI z10 := (hFN12 147 0 (by first | decide | (dsimp only; first | done | decide | omega) | omega)).trans (ez10)
    refine lv_iconst (v := zI 0) hx hb dX12_exchanged_31 rfl ?_
    refine lv_istore_n (lv' := [(2, .int (zI 0)), (0, .ref (B + 146)), (1, .int (zI x))]) hx hb dX12_exchanged_32 rfl hl (by decide) rfl (fun ls hl => ?_)
    have lp33 : ∀ (f : Nat) (v2_33 : Int)  (NL33 : Mem), (0 ≤ v2_33 ∧ v2_33 ≤ 8) → NL33.1 146 5 = zI z1 → NL33.1 147 0 = zI z10 → IvR NL33 → Fr (fun b9 k9 => (b9 = 146 ∧ k9 = 3) ∨ (b9 = 146 ∧ k9 = 6) ∨ b9 = 148 ∨ b9 = 157) NL33 M → (Int.toNat (8 - v2_33) < f) → ∀ (H : Heap) (locs : List Loc) (ls : Array Slot), Wd D B cy s s.heap NL33 H locs → lv_has ls 3 [(2, .int (zI v2_33)), (0, .ref (B + 146)), (1, .int (zI x))] → W p l e (rmm 10 233) s m args below meth c H locs 0 0 Q (F0 m 33 ls []) := by
      intro f
      induction f with
      | zero => intros; omega
      | succ f ih33 =>
        intro v2_33  NL33 iv2_33 eg146_5_33 eg147_0_33 hIL33 hFL33 hf33 H locs ls w hl
        refine lv_iload_n hx hb dX12_exchanged_33 rfl (lv_at hl 0 rfl) ?_
        refine lv_aload_n hx hb dX12_exchanged_34 rfl (lv_at hl 1 rfl) ?_
        refine f_12_5 F w (a := 146) rfl tb_604 dX12_exchanged_35 ?_
        refine r_val (v := zI z1) (eg146_5_33) ?_
        refine z_icmp_ge (tgt := 75) hx hb (by omega) (by omega) dX12_exchanged_38 (by decide) (fun c16 => ?_) (fun c16 => ?_)
        · refine lv_aload_n hx hb dX12_exchanged_75 rfl (lv_at hl 1 rfl) ?_
          refine k_Vi F w (As := []) (rest := []) (a := 146) (kd_lt (a := 146) (show kd 146 = (12, 0, 0) from rfl) (by decide)) (sh_12 rfl _ _) rfl (q_X12_isDue   hIL33) gv_X12_306 hv_X12_isDue ⟨(Nat.le_of_ble_eq_true rfl), (Nat.le_of_ble_eq_true rfl)⟩ hl.1 rfl (Nat.le_of_ble_eq_true rfl) ⟨Nat.zero_le _, Nat.zero_le _⟩ dX12_exchanged_76 (fun r17 N18 H locs hp w => ?_)
          obtain ⟨z19, rfl, bz19, hMN18⟩ := hp
          rw [hMN18] at w
          refine z_if_eq (tgt := 86) hx hb (by omega) dX12_exchanged_79 (by decide) (fun c20 => ?_) (fun c20 => ?_)
          · refine lv_iconst (v := zI 1) hx hb dX12_exchanged_86 rfl ?_
            rw [hQ]
            exact e_i F w hr hlocks ⟨_, rfl, ⟨by omega, by omega⟩, hIL33, hFL33⟩ dX12_exchanged_87
          · refine lv_iconst (v := zI 0) hx hb dX12_exchanged_82 rfl ?_
            refine lv_goto (tgt := 87) hx hb dX12_exchanged_83 (by decide) ?_
            rw [hQ]
            exact e_i F w hr hlocks ⟨_, rfl, ⟨by omega, by omega⟩, hIL33, hFL33⟩ dX12_exchanged_87
        · refine lv_aload_n hx hb dX12_exchanged_41 rfl (lv_at hl 1 rfl) ?_
          refine lv_iload_n hx hb dX12_exchanged_42 rfl (lv_at hl 0 rfl) ?_
          refine lv_iload_n hx hb dX12_exchanged_43 rfl (lv_at hl 2 rfl) ?_
          refine z_icmp_ne (tgt := 53) hx hb (by omega) (by omega) dX12_exchanged_44 (by decide) (fun c21 => ?_) (fun c21 => ?_)
          · refine lv_iload_n hx hb dX12_exchanged_53 rfl (lv_at hl 0 rfl) ?_
            refine lv_iload_n hx hb dX12_exchanged_54 rfl (lv_at hl 2 rfl) ?_
            refine lv_iconst (v := zI 1) hx hb dX12_exchanged_55 rfl ?_
            obtain ⟨z22, bz22, x0z22, ez22⟩ := add_ex x 1
            refine lv_iadd hx hb dX12_exchanged_56 ?_
            refine r_val ez22 ?_
            refine z_icmp_ne (tgt := 64) hx hb (by omega) (by omega) dX12_exchanged_57 (by decide) (fun c23 => ?_) (fun c23 => ?_)
            · refine lv_iload_n hx hb dX12_exchanged_64 rfl (lv_at hl 0 rfl) ?_
              refine k_Vi F w (As := [.int (zI v2_33)]) (rest := []) (a := 146) (kd_lt (a := 146) (show kd 146 = (12, 0, 0) from rfl) (by decide)) (sh_12 rfl _ _) rfl (q_X12_works (x := v2_33) ⟨by omega, by omega⟩  hIL33) gv_X12_166 hv_X12_works ⟨(Nat.le_of_ble_eq_true rfl), (Nat.le_of_ble_eq_true rfl)⟩ hl.1 rfl (Nat.le_of_ble_eq_true rfl) ⟨Nat.zero_le _, Nat.zero_le _⟩ dX12_exchanged_65 (fun r24 N25 H locs hp w => ?_)
              obtain ⟨z26, rfl, bz26, hIN25, hFN25⟩ := hp
              have hGN25 := Fr.tr hFL33 hFN25 (S := (fun b9 k9 => (b9 = 146 ∧ k9 = 3) ∨ (b9 = 146 ∧ k9 = 6) ∨ b9 = 148 ∨ b9 = 157)) (fun b k h => by (try dsimp only at h ⊢); rcases h with ⟨rfl, rfl⟩ | ⟨rfl, rfl⟩ | rfl <;> first | decide | omega)
              have kn27 : N25.1 146 5 = zI z1 := (hFN25 146 5 (by first | decide | (dsimp only; first | done | decide | omega) | omega)).trans (eg146_5_33)
              have kn28 : N25.1 147 0 = zI z10 := (hFN25 147 0 (by first | decide | (dsimp only; first | done | decide | omega) | omega)).trans (eg147_0_33)
              refine lv_pop hx hb dX12_exchanged_68 rfl ?_
              refine z_iinc (v := (v2_33 + 1)) (lv' := [(2, .int (zI (v2_33 + 1))), (0, .ref (B + 146)), (1, .int (zI x))]) hx hb dX12_exchanged_69 hl (k := 0) rfl (by omega) (by decide) rfl (fun ls hl => ?_)
              refine lv_goto (tgt := 33) hx hb dX12_exchanged_72 (by decide) ?_
              exact ih33 (v2_33 + 1) N25 (by omega)  (kn27) (kn28)  hIN25 hGN25 (by omega) _ _ _ w (lv_sub hl [0, 1, 2] rfl)
            · refine lv_iload_n hx hb dX12_exchanged_60 rfl (lv_at hl 2 rfl) ?_
              refine lv_goto (tgt := 65) hx hb dX12_exchanged_61 (by decide) ?_
              refine k_Vi F w (As := [.int (zI x)]) (rest := []) (a := 146) (kd_lt (a := 146) (show kd 146 = (12, 0, 0) from rfl) (by decide)) (sh_12 rfl _ _) rfl (q_X12_works (x := x) ⟨by omega, by omega⟩  hIL33) gv_X12_166 hv_X12_works ⟨(Nat.le_of_ble_eq_true rfl), (Nat.le_of_ble_eq_true rfl)⟩ hl.1 rfl (Nat.le_of_ble_eq_true rfl) ⟨Nat.zero_le _, Nat.zero_le _⟩ dX12_exchanged_65 (fun r29 N30 H locs hp w => ?_)
              obtain ⟨z31, rfl, bz31, hIN30, hFN30⟩ := hp
              have hGN30 := Fr.tr hFL33 hFN30 (S := (fun b9 k9 => (b9 = 146 ∧ k9 = 3) ∨ (b9 = 146 ∧ k9 = 6) ∨ b9 = 148 ∨ b9 = 157)) (fun b k h => by (try dsimp only at h ⊢); rcases h with ⟨rfl, rfl⟩ | ⟨rfl, rfl⟩ | rfl <;> first | decide | omega)
              have kn32 : N30.1 146 5 = zI z1 := (hFN30 146 5 (by first | decide | (dsimp only; first | done | decide | omega) | omega)).trans (eg146_5_33)
              have kn33 : N30.1 147 0 = zI z10 := (hFN30 147 0 (by first | decide | (dsimp only; first | done | decide | omega) | omega)).trans (eg147_0_33)
              refine lv_pop hx hb dX12_exchanged_68 rfl ?_
              refine z_iinc (v := (v2_33 + 1)) (lv' := [(2, .int (zI (v2_33 + 1))), (0, .ref (B + 146)), (1, .int (zI x))]) hx hb dX12_exchanged_69 hl (k := 0) rfl (by omega) (by decide) rfl (fun ls hl => ?_)
              refine lv_goto (tgt := 33) hx hb dX12_exchanged_72 (by decide) ?_
              exact ih33 (v2_33 + 1) N30 (by omega)  (kn32) (kn33)  hIN30 hGN30 (by omega) _ _ _ w (lv_sub hl [0, 1, 2] rfl)
          · refine lv_iload_n hx hb dX12_exchanged_47 rfl (lv_at hl 2 rfl) ?_
            refine lv_iconst (v := zI 1) hx hb dX12_exchanged_48 rfl ?_
            refine z_iadd (z := (x + 1)) hx hb dX12_exchanged_49 (by omega) ?_
            refine lv_goto (tgt := 65) hx hb dX12_exchanged_50 (by decide) ?_
            refine k_Vi F w (As := [.int (zI (x + 1))]) (rest := []) (a := 146) (kd_lt (a := 146) (show kd 146 = (12, 0, 0) from rfl) (by decide)) (sh_12 rfl _ _) rfl (q_X12_works (x := (x + 1)) ⟨by omega, by omega⟩  hIL33) gv_X12_166 hv_X12_works ⟨(Nat.le_of_ble_eq_true rfl), (Nat.le_of_ble_eq_true rfl)⟩ hl.1 rfl (Nat.le_of_ble_eq_true rfl) ⟨Nat.zero_le _, Nat.zero_le _⟩ dX12_exchanged_65 (fun r34 N35 H locs hp w => ?_)
            obtain ⟨z36, rfl, bz36, hIN35, hFN35⟩ := hp
            have hGN35 := Fr.tr hFL33 hFN35 (S := (fun b9 k9 => (b9 = 146 ∧ k9 = 3) ∨ (b9 = 146 ∧ k9 = 6) ∨ b9 = 148 ∨ b9 = 157)) (fun b k h => by (try dsimp only at h ⊢); rcases h with ⟨rfl, rfl⟩ | ⟨rfl, rfl⟩ | rfl <;> first | decide | omega)
            have kn37 : N35.1 146 5 = zI z1 := (hFN35 146 5 (by first | decide | (dsimp only; first | done | decide | omega) | omega)).trans (eg146_5_33)
            have kn38 : N35.1 147 0 = zI z10 := (hFN35 147 0 (by first | decide | (dsimp only; first | done | decide | omega) | omega)).trans (eg147_0_33)
            refine lv_pop hx hb dX12_exchanged_68 rfl ?_
            refine z_iinc (v := (v2_33 + 1)) (lv' := [(2, .int (zI (v2_33 + 1))), (0, .ref (B + 146)), (1, .int (zI x))]) hx hb dX12_exchanged_69 hl (k := 0) rfl (by omega) (by decide) rfl (fun ls hl => ?_)
            refine lv_goto (tgt := 33) hx hb dX12_exchanged_72 (by decide) ?_
            exact ih33 (v2_33 + 1) N35 (by omega)  (kn37) (kn38)  hIN35 hGN35 (by omega) _ _ _ w (lv_sub hl [0, 1, 2] rfl)
    exact lp33 _ 0 N12 (by omega) (kn14) (kn15) hIN12 hGN12 (Nat.lt_succ_self _) _ _ _ w (lv_sub hl [0, 1, 2] rfl)
  · refine lv_iconst (v := zI (-1)) hx hb dX12_exchanged_14 rfl ?_
    rw [hQ]
    exact e_i F w hr hlocks ⟨_, rfl, ⟨by omega, by omega⟩, hI, hF⟩ dX12_exchanged_15
theorem dX12_needed_0 : decode cX12_needed 0 = .ok (.aload_n 0, 1) := dq0 kk_42 (by decide +kernel)
theorem dX12_needed_1 : decode cX12_needed 1 = .ok (.invokevirtual 303, 3) := dqV kk_182 (by decide +kernel)
theorem dX12_needed_4 : decode cX12_needed 4 = .ok (.iconst 0, 1) := dq0 kk_3 (by decide +kernel)
theorem dX12_needed_5 : decode cX12_needed 5 = .ok (.istore_n 1, 1) := dq0 kk_60 (by decide +kernel)
theorem dX12_needed_6 : decode cX12_needed 6 = .ok (.iconst 0, 1) := dq0 kk_3 (by decide +kernel)
theorem dX12_needed_7 : decode cX12_needed 7 = .ok (.istore_n 2, 1) := dq0 kk_61 (by decide +kernel)
theorem dX12_needed_8 : decode cX12_needed 8 = .ok (.iload_n 2, 1) := dq0 kk_28 (by decide +kernel)
theorem dX12_needed_9 : decode cX12_needed 9 = .ok (.aload_n 0, 1) := dq0 kk_42 (by decide +kernel)
theorem dX12_needed_10 : decode cX12_needed 10 = .ok (.getfield 239, 3) := dqV kk_180 (by decide +kernel)
theorem dX12_needed_13 : decode cX12_needed 13 = .ok (.if_icmp .ge 60, 3) := dqT kk_162 (by decide +kernel)
theorem dX12_needed_73 : decode cX12_needed 73 = .ok (.iload_n 1, 1) := dq0 kk_27 (by decide +kernel)
theorem dX12_needed_74 : decode cX12_needed 74 = .ok (.ireturn, 1) := dq0 kk_172 (by decide +kernel)
theorem dX12_needed_16 : decode cX12_needed 16 = .ok (.aload_n 0, 1) := dq0 kk_42 (by decide +kernel)
theorem dX12_needed_17 : decode cX12_needed 17 = .ok (.getfield 17, 3) := dqV kk_180 (by decide +kernel)
theorem dX12_needed_20 : decode cX12_needed 20 = .ok (.aload_n 0, 1) := dq0 kk_42 (by decide +kernel)
theorem dX12_needed_21 : decode cX12_needed 21 = .ok (.getfield 13, 3) := dqV kk_180 (by decide +kernel)
theorem dX12_needed_24 : decode cX12_needed 24 = .ok (.invokestatic 162, 3) := dqV kk_184 (by decide +kernel)
theorem dX12_needed_27 : decode cX12_needed 27 = .ok (.iconst 0, 1) := dq0 kk_3 (by decide +kernel)
theorem dX12_needed_28 : decode cX12_needed 28 = .ok (.istore_n 3, 1) := dq0 kk_62 (by decide +kernel)
theorem dX12_needed_29 : decode cX12_needed 29 = .ok (.iload_n 3, 1) := dq0 kk_29 (by decide +kernel)
theorem dX12_needed_30 : decode cX12_needed 30 = .ok (.aload_n 0, 1) := dq0 kk_42 (by decide +kernel)
theorem dX12_needed_31 : decode cX12_needed 31 = .ok (.getfield 239, 3) := dqV kk_180 (by decide +kernel)
theorem dX12_needed_34 : decode cX12_needed 34 = .ok (.if_icmp .ge 20, 3) := dqT kk_162 (by decide +kernel)
theorem dX12_needed_37 : decode cX12_needed 37 = .ok (.iload_n 3, 1) := dq0 kk_29 (by decide +kernel)
theorem dX12_needed_38 : decode cX12_needed 38 = .ok (.iload_n 2, 1) := dq0 kk_28 (by decide +kernel)
theorem dX12_needed_39 : decode cX12_needed 39 = .ok (.if_icmp .eq 9, 3) := dqT kk_159 (by decide +kernel)
theorem dX12_needed_48 : decode cX12_needed 48 = .ok (.iinc 3 1, 3) := dqI kk_132 (by decide +kernel)
theorem dX12_needed_51 : decode cX12_needed 51 = .ok (.goto (-22), 3) := dqT kk_167 (by decide +kernel)
theorem dX12_needed_54 : decode cX12_needed 54 = .ok (.aload_n 0, 1) := dq0 kk_42 (by decide +kernel)
theorem dX12_needed_55 : decode cX12_needed 55 = .ok (.invokevirtual 306, 3) := dqV kk_182 (by decide +kernel)
theorem dX12_needed_58 : decode cX12_needed 58 = .ok (.ifCond .ne 9, 3) := dqT kk_154 (by decide +kernel)
theorem dX12_needed_67 : decode cX12_needed 67 = .ok (.iinc 2 1, 3) := dqI kk_132 (by decide +kernel)
theorem dX12_needed_70 : decode cX12_needed 70 = .ok (.goto (-62), 3) := dqT kk_167 (by decide +kernel)
theorem dX12_needed_61 : decode cX12_needed 61 = .ok (.iload_n 1, 1) := dq0 kk_27 (by decide +kernel)
theorem dX12_needed_62 : decode cX12_needed 62 = .ok (.iconst 1, 1) := dq0 kk_4 (by decide +kernel)
theorem dX12_needed_63 : decode cX12_needed 63 = .ok (.iload_n 2, 1) := dq0 kk_28 (by decide +kernel)
theorem dX12_needed_64 : decode cX12_needed 64 = .ok (.ishl, 1) := dq0 kk_120 (by decide +kernel)
theorem dX12_needed_65 : decode cX12_needed 65 = .ok (.ior, 1) := dq0 kk_128 (by decide +kernel)
theorem dX12_needed_66 : decode cX12_needed 66 = .ok (.istore_n 1, 1) := dq0 kk_60 (by decide +kernel)
theorem dX12_needed_42 : decode cX12_needed 42 = .ok (.aload_n 0, 1) := dq0 kk_42 (by decide +kernel)
theorem dX12_needed_43 : decode cX12_needed 43 = .ok (.iload_n 3, 1) := dq0 kk_29 (by decide +kernel)
theorem dX12_needed_44 : decode cX12_needed 44 = .ok (.invokevirtual 166, 3) := dqV kk_182 (by decide +kernel)
theorem dX12_needed_47 : decode cX12_needed 47 = .ok (.pop, 1) := dq0 kk_87 (by decide +kernel)
set_option maxRecDepth 4000 in
theorem q_X12_needed {l : Launch} {D : va_G} {B : Nat} {cy : Nat → ClassId} {M : Mem}  (hI : IvR M) : Ci l D B cy yX12_needed cX12_needed 4 (some .int) 10 233 [.ref (B + 146)] M (fun r M1 => ∃ z : Int, r = zI z ∧ (0 ≤ z ∧ z ≤ 4095) ∧ IvR M1 ∧ Fr (fun b9 k9 => (b9 = 146 ∧ k9 = 3) ∨ (b9 = 146 ∧ k9 = 6) ∨ b9 = 148 ∨ b9 = 157) M1 M) := by
  refine s_anyQ (by decide) (Nat.le_of_ble_eq_true rfl) ?_
  intro p e s m args below meth c ls Q F hr hlocks hQ w hl
  have F : CallFix p m c cX12_needed 4 s args TB RX12 := F
  have hx := F.1
  have hb := F.2.1
  have hl : lv_has ls 4 [(0, .ref (B + 146))] := hl
  have hF : Fr (fun b9 k9 => (b9 = 146 ∧ k9 = 3) ∨ (b9 = 146 ∧ k9 = 6) ∨ b9 = 148 ∨ b9 = 157) M M := Fr.rf
  refine lv_aload_n hx hb dX12_needed_0 rfl (lv_at hl 0 rfl) ?_
  refine k_Vv F w (As := []) (rest := []) (a := 146) (kd_lt (a := 146) (show kd 146 = (12, 0, 0) from rfl) (by decide)) (sh_12 rfl _ _) rfl (q_X12_laysDue   hI) gv_X12_303 hv_X12_laysDue ⟨(Nat.le_of_ble_eq_true rfl), (Nat.le_of_ble_eq_true rfl)⟩ hl.1 rfl (Nat.le_of_ble_eq_true rfl) ⟨Nat.zero_le _, Nat.zero_le _⟩ dX12_needed_1 (fun N2 H locs hp w => ?_)
  obtain ⟨hIN2, hFN2⟩ := hp
  have hGN2 := Fr.tr hF hFN2 (S := (fun b9 k9 => (b9 = 146 ∧ k9 = 3) ∨ (b9 = 146 ∧ k9 = 6) ∨ b9 = 148 ∨ b9 = 157)) (fun b k h => by (try dsimp only at h ⊢); rcases h with ⟨rfl, rfl⟩ | ⟨rfl, rfl⟩ | rfl | rfl <;> first | decide | omega)
  refine lv_iconst (v := zI 0) hx hb dX12_needed_4 rfl ?_
  refine lv_istore_n (lv' := [(1, .int (zI 0)), (0, .ref (B + 146))]) hx hb dX12_needed_5 rfl hl (by decide) rfl (fun ls hl => ?_)
  refine lv_iconst (v := zI 0) hx hb dX12_needed_6 rfl ?_
  refine lv_istore_n (lv' := [(2, .int (zI 0)), (1, .int (zI 0)), (0, .ref (B + 146))]) hx hb dX12_needed_7 rfl hl (by decide) rfl (fun ls hl => ?_)
  have lp8 : ∀ (f : Nat) (v2_8 : Int) (v1_8 : Int)  (NL8 : Mem), (0 ≤ v2_8 ∧ v2_8 ≤ 8) → (0 ≤ v1_8 ∧ v1_8 ≤ 4095) → IvR NL8 → Fr (fun b9 k9 => (b9 = 146 ∧ k9 = 3) ∨ (b9 = 146 ∧ k9 = 6) ∨ b9 = 148 ∨ b9 = 157) NL8 M → (Int.toNat (8 - v2_8) < f) → ∀ (H : Heap) (locs : List Loc) (ls : Array Slot), Wd D B cy s s.heap NL8 H locs → lv_has ls 4 [(2, .int (zI v2_8)), (1, .int (zI v1_8)), (0, .ref (B + 146))] → W p l e (rmm 10 233) s m args below meth c H locs 0 0 Q (F0 m 8 ls []) := by
    intro f
    induction f with
    | zero => intros; omega
    | succ f ih8 =>
      intro v2_8 v1_8  NL8 iv2_8 iv1_8 hIL8 hFL8 hf8 H locs ls w hl
      refine lv_iload_n hx hb dX12_needed_8 rfl (lv_at hl 0 rfl) ?_
      refine lv_aload_n hx hb dX12_needed_9 rfl (lv_at hl 2 rfl) ?_
      refine f_12_5 F w (a := 146) rfl tb_604 dX12_needed_10 ?_
      obtain ⟨z4, bz4, ez4⟩ := IvR.ld (k := 5) hIL8 (show ivr 146 5 = (0, 8) from rfl) (show 146 ≤ 146 ∧ 146 < 159 by decide)
      refine r_val ez4 ?_
      refine z_icmp_ge (tgt := 73) hx hb (by omega) (by omega) dX12_needed_13 (by decide) (fun c5 => ?_) (fun c5 => ?_)
      · refine lv_iload_n hx hb dX12_needed_73 rfl (lv_at hl 1 rfl) ?_
        rw [hQ]
        exact e_i F w hr hlocks ⟨_, rfl, ⟨by omega, by omega⟩, hIL8, hFL8⟩ dX12_needed_74
      · refine lv_aload_n hx hb dX12_needed_16 rfl (lv_at hl 2 rfl) ?_
        refine f_12_2 F w (a := 146) rfl tb_45 dX12_needed_17 ?_
        refine lv_aload_n hx hb dX12_needed_20 rfl (lv_at hl 2 rfl) ?_
        refine f_12_1 F w (a := 146) rfl tb_580 dX12_needed_21 ?_
        obtain ⟨z6, bz6, ez6⟩ := IvR.ld (k := 0) hIL8 (show ivr 147 0 = (0, 12) from rfl) (show 146 ≤ 147 ∧ 147 < 159 by decide)
        refine k_Sv F w (As := [.ref (B + 148), .ref (B + 147)]) (rest := []) (q_copy_148_147 (nn := z6) (ez6) ⟨by omega, by omega⟩  hIL8) gs_X12_162 hs_X12_copy ⟨(Nat.le_of_ble_eq_true rfl), (Nat.le_of_ble_eq_true rfl)⟩ hl.1 rfl (Nat.le_of_ble_eq_true rfl) ⟨Nat.zero_le _, Nat.zero_le _⟩ dX12_needed_24 (fun N8 H locs hp w => ?_)
        obtain ⟨yN8_148_0, hIN8, hFN8⟩ := hp
        have hGN8 := Fr.tr hFL8 hFN8 (S := (fun b9 k9 => (b9 = 146 ∧ k9 = 3) ∨ (b9 = 146 ∧ k9 = 6) ∨ b9 = 148 ∨ b9 = 157)) (fun b k h => by (try dsimp only at h ⊢); rcases h with rfl <;> first | decide | omega)
        have kn10 : N8.1 146 5 = zI z4 := (hFN8 146 5 (by first | decide | (dsimp only; first | done | decide | omega) | omega)).trans (ez4)
        have kn11 : N8.1 147 0 = zI z6 := (hFN8 147 0 (by first | decide | (dsimp only; first | done | decide | omega) | omega)).trans (ez6)
        refine lv_iconst (v := zI 0) hx hb dX12_needed_27 rfl ?_
        refine lv_istore_n (lv' := [(3, .int (zI 0)), (2, .int (zI v2_8)), (1, .int (zI v1_8)), (0, .ref (B + 146))]) hx hb dX12_needed_28 rfl hl (by decide) rfl (fun ls hl => ?_)
        have lp29 : ∀ (f : Nat) (v3_29 : Int)  (NL29 : Mem), (0 ≤ v3_29 ∧ v3_29 ≤ 8) → NL29.1 146 5 = zI z4 → NL29.1 147 0 = zI z6 → IvR NL29 → Fr (fun b9 k9 => (b9 = 146 ∧ k9 = 3) ∨ (b9 = 146 ∧ k9 = 6) ∨ b9 = 148 ∨ b9 = 157) NL29 M → (Int.toNat (8 - v3_29) < f) → ∀ (H : Heap) (locs : List Loc) (ls : Array Slot), Wd D B cy s s.heap NL29 H locs → lv_has ls 4 [(3, .int (zI v3_29)), (2, .int (zI v2_8)), (1, .int (zI v1_8)), (0, .ref (B + 146))] → W p l e (rmm 10 233) s m args below meth c H locs 0 0 Q (F0 m 29 ls []) := by
          intro f
          induction f with
          | zero => intros; omega
          | succ f ih29 =>
            intro v3_29  NL29 iv3_29 eg146_5_29 eg147_0_29 hIL29 hFL29 hf29 H locs ls w hl
            refine lv_iload_n hx hb dX12_needed_29 rfl (lv_at hl 0 rfl) ?_
            refine lv_aload_n hx hb dX12_needed_30 rfl (lv_at hl 3 rfl) ?_
            refine f_12_5 F w (a := 146) rfl tb_604 dX12_needed_31 ?_
            refine r_val (v := zI z4) (eg146_5_29) ?_
            refine z_icmp_ge (tgt := 54) hx hb (by omega) (by omega) dX12_needed_34 (by decide) (fun c12 => ?_) (fun c12 => ?_)
            · refine lv_aload_n hx hb dX12_needed_54 rfl (lv_at hl 3 rfl) ?_
              refine k_Vi F w (As := []) (rest := []) (a := 146) (kd_lt (a := 146) (show kd 146 = (12, 0, 0) from rfl) (by decide)) (sh_12 rfl _ _) rfl (q_X12_isDue   hIL29) gv_X12_306 hv_X12_isDue ⟨(Nat.le_of_ble_eq_true rfl), (Nat.le_of_ble_eq_true rfl)⟩ hl.1 rfl (Nat.le_of_ble_eq_true rfl) ⟨Nat.zero_le _, Nat.zero_le _⟩ dX12_needed_55 (fun r13 N14 H locs hp w => ?_)
              obtain ⟨z15, rfl, bz15, hMN14⟩ := hp
              rw [hMN14] at w
              refine z_if_ne (tgt := 67) hx hb (by omega) dX12_needed_58 (by decide) (fun c16 => ?_) (fun c16 => ?_)
              · refine z_iinc (v := (v2_8 + 1)) (lv' := [(2, .int (zI (v2_8 + 1))), (3, .int (zI v3_29)), (1, .int (zI v1_8)), (0, .ref (B + 146))]) hx hb dX12_needed_67 hl (k := 1) rfl (by omega) (by decide) rfl (fun ls hl => ?_)
                refine lv_goto (tgt := 8) hx hb dX12_needed_70 (by decide) ?_
                exact ih8 (v2_8 + 1) v1_8 NL29 (by omega) (by omega)    hIL29 hFL29 (by omega) _ _ _ w (lv_sub hl [0, 2, 3] rfl)
              · refine lv_iload_n hx hb dX12_needed_61 rfl (lv_at hl 2 rfl) ?_
                refine lv_iconst (v := zI 1) hx hb dX12_needed_62 rfl ?_
                refine lv_iload_n hx hb dX12_needed_63 rfl (lv_at hl 1 rfl) ?_
                obtain ⟨z17, bz17, x0z17, ez17⟩ := shl_ex 1 v2_8
                refine lv_ishl hx hb dX12_needed_64 ?_
                refine r_val ez17 ?_
                obtain ⟨z18, bz18, x0z18, ez18⟩ := or_ex v1_8 z17
                refine lv_ior hx hb dX12_needed_65 ?_
                refine r_val ez18 ?_
                refine lv_istore_n (lv' := [(1, .int (zI z18)), (3, .int (zI v3_29)), (2, .int (zI v2_8)), (0, .ref (B + 146))]) hx hb dX12_needed_66 rfl hl (by decide) rfl (fun ls hl => ?_)
                refine z_iinc (v := (v2_8 + 1)) (lv' := [(2, .int (zI (v2_8 + 1))), (1, .int (zI z18)), (3, .int (zI v3_29)), (0, .ref (B + 146))]) hx hb dX12_needed_67 hl (k := 2) rfl (by omega) (by decide) rfl (fun ls hl => ?_)
                refine lv_goto (tgt := 8) hx hb dX12_needed_70 (by decide) ?_
                exact ih8 (v2_8 + 1) z18 NL29 (by omega) (by omega)    hIL29 hFL29 (by omega) _ _ _ w (lv_sub hl [0, 1, 3] rfl)
            · refine lv_iload_n hx hb dX12_needed_37 rfl (lv_at hl 0 rfl) ?_
              refine lv_iload_n hx hb dX12_needed_38 rfl (lv_at hl 1 rfl) ?_
              refine z_icmp_eq (tgt := 48) hx hb (by omega) (by omega) dX12_needed_39 (by decide) (fun c19 => ?_) (fun c19 => ?_)
              · refine z_iinc (v := (v3_29 + 1)) (lv' := [(3, .int (zI (v3_29 + 1))), (2, .int (zI v2_8)), (1, .int (zI v1_8)), (0, .ref (B + 146))]) hx hb dX12_needed_48 hl (k := 0) rfl (by omega) (by decide) rfl (fun ls hl => ?_)
                refine lv_goto (tgt := 29) hx hb dX12_needed_51 (by decide) ?_
                exact ih29 (v3_29 + 1) NL29 (by omega)  (eg146_5_29) (eg147_0_29)  hIL29 hFL29 (by omega) _ _ _ w (lv_sub hl [0, 1, 2, 3] rfl)
              · refine lv_aload_n hx hb dX12_needed_42 rfl (lv_at hl 3 rfl) ?_
                refine lv_iload_n hx hb dX12_needed_43 rfl (lv_at hl 0 rfl) ?_
                refine k_Vi F w (As := [.int (zI v3_29)]) (rest := []) (a := 146) (kd_lt (a := 146) (show kd 146 = (12, 0, 0) from rfl) (by decide)) (sh_12 rfl _ _) rfl (q_X12_works (x := v3_29) ⟨by omega, by omega⟩  hIL29) gv_X12_166 hv_X12_works ⟨(Nat.le_of_ble_eq_true rfl), (Nat.le_of_ble_eq_true rfl)⟩ hl.1 rfl (Nat.le_of_ble_eq_true rfl) ⟨Nat.zero_le _, Nat.zero_le _⟩ dX12_needed_44 (fun r20 N21 H locs hp w => ?_)
                obtain ⟨z22, rfl, bz22, hIN21, hFN21⟩ := hp
                have hGN21 := Fr.tr hFL29 hFN21 (S := (fun b9 k9 => (b9 = 146 ∧ k9 = 3) ∨ (b9 = 146 ∧ k9 = 6) ∨ b9 = 148 ∨ b9 = 157)) (fun b k h => by (try dsimp only at h ⊢); rcases h with ⟨rfl, rfl⟩ | ⟨rfl, rfl⟩ | rfl <;> first | decide | omega)
                have kn23 : N21.1 146 5 = zI z4 := (hFN21 146 5 (by first | decide | (dsimp only; first | done | decide | omega) | omega)).trans (eg146_5_29)
                have kn24 : N21.1 147 0 = zI z6 := (hFN21 147 0 (by first | decide | (dsimp only; first | done | decide | omega) | omega)).trans (eg147_0_29)
                refine lv_pop hx hb dX12_needed_47 rfl ?_
                refine z_iinc (v := (v3_29 + 1)) (lv' := [(3, .int (zI (v3_29 + 1))), (2, .int (zI v2_8)), (1, .int (zI v1_8)), (0, .ref (B + 146))]) hx hb dX12_needed_48 hl (k := 0) rfl (by omega) (by decide) rfl (fun ls hl => ?_)
                refine lv_goto (tgt := 29) hx hb dX12_needed_51 (by decide) ?_
                exact ih29 (v3_29 + 1) N21 (by omega)  (kn23) (kn24)  hIN21 hGN21 (by omega) _ _ _ w (lv_sub hl [0, 1, 2, 3] rfl)
        exact lp29 _ 0 N8 (by omega) (kn10) (kn11) hIN8 hGN8 (Nat.lt_succ_self _) _ _ _ w (lv_sub hl [0, 1, 2, 3] rfl)
  exact lp8 _ 0 0 N2 (by omega) (by omega) hIN2 hGN2 (Nat.lt_succ_self _) _ _ _ w (lv_sub hl [0, 1, 2] rfl)
theorem dX12_idle_0 : decode cX12_idle 0 = .ok (.aload_n 0, 1) := dq0 kk_42 (by decide +kernel)
theorem dX12_idle_1 : decode cX12_idle 1 = .ok (.getfield 17, 3) := dqV kk_180 (by decide +kernel)
theorem dX12_idle_4 : decode cX12_idle 4 = .ok (.aload_n 0, 1) := dq0 kk_42 (by decide +kernel)
theorem dX12_idle_5 : decode cX12_idle 5 = .ok (.getfield 13, 3) := dqV kk_180 (by decide +kernel)
theorem dX12_idle_8 : decode cX12_idle 8 = .ok (.invokestatic 162, 3) := dqV kk_184 (by decide +kernel)
theorem dX12_idle_11 : decode cX12_idle 11 = .ok (.iconst 0, 1) := dq0 kk_3 (by decide +kernel)
theorem dX12_idle_12 : decode cX12_idle 12 = .ok (.istore_n 1, 1) := dq0 kk_60 (by decide +kernel)
theorem dX12_idle_13 : decode cX12_idle 13 = .ok (.iconst 0, 1) := dq0 kk_3 (by decide +kernel)
theorem dX12_idle_14 : decode cX12_idle 14 = .ok (.istore_n 2, 1) := dq0 kk_61 (by decide +kernel)
theorem dX12_idle_15 : decode cX12_idle 15 = .ok (.iload_n 2, 1) := dq0 kk_28 (by decide +kernel)
theorem dX12_idle_16 : decode cX12_idle 16 = .ok (.aload_n 0, 1) := dq0 kk_42 (by decide +kernel)
theorem dX12_idle_17 : decode cX12_idle 17 = .ok (.getfield 239, 3) := dqV kk_180 (by decide +kernel)
theorem dX12_idle_20 : decode cX12_idle 20 = .ok (.if_icmp .ge 23, 3) := dqT kk_162 (by decide +kernel)
theorem dX12_idle_43 : decode cX12_idle 43 = .ok (.iload_n 1, 1) := dq0 kk_27 (by decide +kernel)
theorem dX12_idle_44 : decode cX12_idle 44 = .ok (.ireturn, 1) := dq0 kk_172 (by decide +kernel)
theorem dX12_idle_23 : decode cX12_idle 23 = .ok (.aload_n 0, 1) := dq0 kk_42 (by decide +kernel)
theorem dX12_idle_24 : decode cX12_idle 24 = .ok (.iload_n 2, 1) := dq0 kk_28 (by decide +kernel)
theorem dX12_idle_25 : decode cX12_idle 25 = .ok (.invokevirtual 166, 3) := dqV kk_182 (by decide +kernel)
theorem dX12_idle_28 : decode cX12_idle 28 = .ok (.ifCond .ne 9, 3) := dqT kk_154 (by decide +kernel)
theorem dX12_idle_37 : decode cX12_idle 37 = .ok (.iinc 2 1, 3) := dqI kk_132 (by decide +kernel)
theorem dX12_idle_40 : decode cX12_idle 40 = .ok (.goto (-25), 3) := dqT kk_167 (by decide +kernel)
theorem dX12_idle_31 : decode cX12_idle 31 = .ok (.iload_n 1, 1) := dq0 kk_27 (by decide +kernel)
theorem dX12_idle_32 : decode cX12_idle 32 = .ok (.iconst 1, 1) := dq0 kk_4 (by decide +kernel)
theorem dX12_idle_33 : decode cX12_idle 33 = .ok (.iload_n 2, 1) := dq0 kk_28 (by decide +kernel)
theorem dX12_idle_34 : decode cX12_idle 34 = .ok (.ishl, 1) := dq0 kk_120 (by decide +kernel)
theorem dX12_idle_35 : decode cX12_idle 35 = .ok (.ior, 1) := dq0 kk_128 (by decide +kernel)
theorem dX12_idle_36 : decode cX12_idle 36 = .ok (.istore_n 1, 1) := dq0 kk_60 (by decide +kernel)
set_option maxRecDepth 4000 in
theorem q_X12_idle {l : Launch} {D : va_G} {B : Nat} {cy : Nat → ClassId} {M : Mem}  (hI : IvR M) : Ci l D B cy yX12_idle cX12_idle 3 (some .int) 8 189 [.ref (B + 146)] M (fun r M1 => ∃ z : Int, r = zI z ∧ (0 ≤ z ∧ z ≤ 4095) ∧ IvR M1 ∧ Fr (fun b9 k9 => (b9 = 146 ∧ k9 = 3) ∨ (b9 = 146 ∧ k9 = 6) ∨ b9 = 148) M1 M) := by
  refine s_anyQ (by decide) (Nat.le_of_ble_eq_true rfl) ?_
  intro p e s m args below meth c ls Q F hr hlocks hQ w hl
  have F : CallFix p m c cX12_idle 3 s args TB RX12 := F
  have hx := F.1
  have hb := F.2.1
  have hl : lv_has ls 3 [(0, .ref (B + 146))] := hl
  have hF : Fr (fun b9 k9 => (b9 = 146 ∧ k9 = 3) ∨ (b9 = 146 ∧ k9 = 6) ∨ b9 = 148) M M := Fr.rf
  refine lv_aload_n hx hb dX12_idle_0 rfl (lv_at hl 0 rfl) ?_
  refine f_12_2 F w (a := 146) rfl tb_45 dX12_idle_1 ?_
  refine lv_aload_n hx hb dX12_idle_4 rfl (lv_at hl 0 rfl) ?_
  refine f_12_1 F w (a := 146) rfl tb_580 dX12_idle_5 ?_
  obtain ⟨z1, bz1, ez1⟩ := IvR.ld (k := 0) hI (show ivr 147 0 = (0, 12) from rfl) (show 146 ≤ 147 ∧ 147 < 159 by decide)
  refine k_Sv F w (As := [.ref (B + 148), .ref (B + 147)]) (rest := []) (q_copy_148_147 (nn := z1) (ez1) ⟨by omega, by omega⟩  hI) gs_X12_162 hs_X12_copy ⟨(Nat.le_of_ble_eq_true rfl), (Nat.le_of_ble_eq_true rfl)⟩ hl.1 rfl (Nat.le_of_ble_eq_true rfl) ⟨Nat.zero_le _, Nat.zero_le _⟩ dX12_idle_8 (fun N3 H locs hp w => ?_)
  obtain ⟨yN3_148_0, hIN3, hFN3⟩ := hp
  have hGN3 := Fr.tr hF hFN3 (S := (fun b9 k9 => (b9 = 146 ∧ k9 = 3) ∨ (b9 = 146 ∧ k9 = 6) ∨ b9 = 148)) (fun b k h => by (try dsimp only at h ⊢); rcases h with rfl <;> first | decide | omega)
  have kn5 : N3.1 147 0 = zI z1 := (hFN3 147 0 (by first | decide | (dsimp only; first | done | decide | omega) | omega)).trans (ez1)
  refine lv_iconst (v := zI 0) hx hb dX12_idle_11 rfl ?_
  refine lv_istore_n (lv' := [(1, .int (zI 0)), (0, .ref (B + 146))]) hx hb dX12_idle_12 rfl hl (by decide) rfl (fun ls hl => ?_)
  refine lv_iconst (v := zI 0) hx hb dX12_idle_13 rfl ?_
  refine lv_istore_n (lv' := [(2, .int (zI 0)), (1, .int (zI 0)), (0, .ref (B + 146))]) hx hb dX12_idle_14 rfl hl (by decide) rfl (fun ls hl => ?_)
  have lp15 : ∀ (f : Nat) (v2_15 : Int) (v1_15 : Int)  (NL15 : Mem), (0 ≤ v2_15 ∧ v2_15 ≤ 8) → (0 ≤ v1_15 ∧ v1_15 ≤ 4095) → NL15.1 147 0 = zI z1 → IvR NL15 → Fr (fun b9 k9 => (b9 = 146 ∧ k9 = 3) ∨ (b9 = 146 ∧ k9 = 6) ∨ b9 = 148) NL15 M → (Int.toNat (8 - v2_15) < f) → ∀ (H : Heap) (locs : List Loc) (ls : Array Slot), Wd D B cy s s.heap NL15 H locs → lv_has ls 3 [(2, .int (zI v2_15)), (1, .int (zI v1_15)), (0, .ref (B + 146))] → W p l e (rmm 8 189) s m args below meth c H locs 0 0 Q (F0 m 15 ls []) := by
    intro f
    induction f with
    | zero => intros; omega
    | succ f ih15 =>
      intro v2_15 v1_15  NL15 iv2_15 iv1_15 eg147_0_15 hIL15 hFL15 hf15 H locs ls w hl
      refine lv_iload_n hx hb dX12_idle_15 rfl (lv_at hl 0 rfl) ?_
      refine lv_aload_n hx hb dX12_idle_16 rfl (lv_at hl 2 rfl) ?_
      refine f_12_5 F w (a := 146) rfl tb_604 dX12_idle_17 ?_
      obtain ⟨z6, bz6, ez6⟩ := IvR.ld (k := 5) hIL15 (show ivr 146 5 = (0, 8) from rfl) (show 146 ≤ 146 ∧ 146 < 159 by decide)
      refine r_val ez6 ?_
      refine z_icmp_ge (tgt := 43) hx hb (by omega) (by omega) dX12_idle_20 (by decide) (fun c7 => ?_) (fun c7 => ?_)
      · refine lv_iload_n hx hb dX12_idle_43 rfl (lv_at hl 1 rfl) ?_
        rw [hQ]
        exact e_i F w hr hlocks ⟨_, rfl, ⟨by omega, by omega⟩, hIL15, hFL15⟩ dX12_idle_44
      · refine lv_aload_n hx hb dX12_idle_23 rfl (lv_at hl 2 rfl) ?_
        refine lv_iload_n hx hb dX12_idle_24 rfl (lv_at hl 0 rfl) ?_
        refine k_Vi F w (As := [.int (zI v2_15)]) (rest := []) (a := 146) (kd_lt (a := 146) (show kd 146 = (12, 0, 0) from rfl) (by decide)) (sh_12 rfl _ _) rfl (q_X12_works (x := v2_15) ⟨by omega, by omega⟩  hIL15) gv_X12_166 hv_X12_works ⟨(Nat.le_of_ble_eq_true rfl), (Nat.le_of_ble_eq_true rfl)⟩ hl.1 rfl (Nat.le_of_ble_eq_true rfl) ⟨Nat.zero_le _, Nat.zero_le _⟩ dX12_idle_25 (fun r8 N9 H locs hp w => ?_)
        obtain ⟨z10, rfl, bz10, hIN9, hFN9⟩ := hp
        have hGN9 := Fr.tr hFL15 hFN9 (S := (fun b9 k9 => (b9 = 146 ∧ k9 = 3) ∨ (b9 = 146 ∧ k9 = 6) ∨ b9 = 148)) (fun b k h => by (try dsimp only at h ⊢); rcases h with ⟨rfl, rfl⟩ | ⟨rfl, rfl⟩ | rfl <;> first | decide | omega)
        have kn11 : N9.1 147 0 = zI z1 := (hFN9 147 0 (by first | decide | (dsimp only; first | done | decide | omega) | omega)).trans (eg147_0_15)
        have kn12 : N9.1 146 5 = zI z6 := (hFN9 146 5 (by first | decide | (dsimp only; first | done | decide | omega) | omega)).trans (ez6)
        refine z_if_ne (tgt := 37) hx hb (by omega) dX12_idle_28 (by decide) (fun c13 => ?_) (fun c13 => ?_)
        · refine z_iinc (v := (v2_15 + 1)) (lv' := [(2, .int (zI (v2_15 + 1))), (1, .int (zI v1_15)), (0, .ref (B + 146))]) hx hb dX12_idle_37 hl (k := 0) rfl (by omega) (by decide) rfl (fun ls hl => ?_)
          refine lv_goto (tgt := 15) hx hb dX12_idle_40 (by decide) ?_
          exact ih15 (v2_15 + 1) v1_15 N9 (by omega) (by omega)  (kn11)  hIN9 hGN9 (by omega) _ _ _ w (lv_sub hl [0, 1, 2] rfl)
        · refine lv_iload_n hx hb dX12_idle_31 rfl (lv_at hl 1 rfl) ?_
          refine lv_iconst (v := zI 1) hx hb dX12_idle_32 rfl ?_
          refine lv_iload_n hx hb dX12_idle_33 rfl (lv_at hl 0 rfl) ?_
          obtain ⟨z14, bz14, x0z14, ez14⟩ := shl_ex 1 v2_15
          refine lv_ishl hx hb dX12_idle_34 ?_
          refine r_val ez14 ?_
          obtain ⟨z15, bz15, x0z15, ez15⟩ := or_ex v1_15 z14
          refine lv_ior hx hb dX12_idle_35 ?_
          refine r_val ez15 ?_
          refine lv_istore_n (lv' := [(1, .int (zI z15)), (2, .int (zI v2_15)), (0, .ref (B + 146))]) hx hb dX12_idle_36 rfl hl (by decide) rfl (fun ls hl => ?_)
          refine z_iinc (v := (v2_15 + 1)) (lv' := [(2, .int (zI (v2_15 + 1))), (1, .int (zI z15)), (0, .ref (B + 146))]) hx hb dX12_idle_37 hl (k := 1) rfl (by omega) (by decide) rfl (fun ls hl => ?_)
          refine lv_goto (tgt := 15) hx hb dX12_idle_40 (by decide) ?_
          exact ih15 (v2_15 + 1) z15 N9 (by omega) (by omega)  (kn11)  hIN9 hGN9 (by omega) _ _ _ w (lv_sub hl [0, 1, 2] rfl)
  exact lp15 _ 0 0 N3 (by omega) (by omega) (kn5) hIN3 hGN3 (Nat.lt_succ_self _) _ _ _ w (lv_sub hl [0, 1, 2] rfl)
theorem dX12_count_0 : decode cX12_count 0 = .ok (.iload_n 1, 1) := dq0 kk_27 (by decide +kernel)
theorem dX12_count_1 : decode cX12_count 1 = .ok (.tableswitch 51 0 3 #[31, 36, 41, 46], 31) := by decide +kernel
theorem dX12_count_32 : decode cX12_count 32 = .ok (.aload_n 0, 1) := dq0 kk_42 (by decide +kernel)
theorem dX12_count_33 : decode cX12_count 33 = .ok (.getfield 239, 3) := dqV kk_180 (by decide +kernel)
theorem dX12_count_36 : decode cX12_count 36 = .ok (.ireturn, 1) := dq0 kk_172 (by decide +kernel)
theorem dX12_count_37 : decode cX12_count 37 = .ok (.aload_n 0, 1) := dq0 kk_42 (by decide +kernel)
theorem dX12_count_38 : decode cX12_count 38 = .ok (.getfield 201, 3) := dqV kk_180 (by decide +kernel)
theorem tb_650 : Cond.fieldLink "ToneLinesModel" 201 "ToneLinesModel" "acts" "I" ∈ TB := wtb_280
theorem dX12_count_41 : decode cX12_count 41 = .ok (.ireturn, 1) := dq0 kk_172 (by decide +kernel)
theorem dX12_count_42 : decode cX12_count 42 = .ok (.aload_n 0, 1) := dq0 kk_42 (by decide +kernel)
theorem dX12_count_43 : decode cX12_count 43 = .ok (.getfield 169, 3) := dqV kk_180 (by decide +kernel)
theorem dX12_count_46 : decode cX12_count 46 = .ok (.ireturn, 1) := dq0 kk_172 (by decide +kernel)
theorem dX12_count_47 : decode cX12_count 47 = .ok (.aload_n 0, 1) := dq0 kk_42 (by decide +kernel)
theorem dX12_count_48 : decode cX12_count 48 = .ok (.invokevirtual 324, 3) := dqV kk_182 (by decide +kernel)
theorem tk_X12_idle : Cond.code yX12_idle cX12_idle 3 (some .int) ∈ TB := tbm (tc7 (List.mem_of_getElem? (i := 40) rfl)) rfl
theorem gc_X12_idle : GoodIn TB (cw yX12_idle cX12_idle 3 (some .int)) := goodIn_c2 tk_X12_idle
theorem tb_651 : Cond.methodLink "ToneLinesModel" 324 yX12_idle ∈ TB := tbm (tc7 (List.mem_of_getElem? (i := 37) rfl)) rfl
theorem tb_652 : Cond.instanceMethod yX12_idle ∈ TB := tbm (tc7 (List.mem_of_getElem? (i := 39) rfl)) rfl
theorem tb_653 : Cond.selects "ToneLinesModel" yX12_idle yX12_idle ∈ TB := tbp (List.mem_of_getElem? (i := 90) rfl) rfl
theorem gv_X12_324 : GoodIn TB (wsV RX12 324 RX12 yX12_idle (cw yX12_idle cX12_idle 3 (some .int))) := goodIn_4 tb_651 tb_652 tb_653 tb_38 gc_X12_idle
theorem hv_X12_idle : yX12_idle.cls = RX12 ∧ yX12_idle.cls ≠ "java/lang/invoke/MethodHandle" ∧ yX12_idle.cls ≠ "java/lang/invoke/VarHandle" ∧ (parseMethodDescriptor yX12_idle.desc).map (fun d => d.parameters.length) = some 0 := by decide +kernel
theorem dX12_count_51 : decode cX12_count 51 = .ok (.ireturn, 1) := dq0 kk_172 (by decide +kernel)
theorem dX12_count_52 : decode cX12_count 52 = .ok (.iconst (-1), 1) := dq0 kk_2 (by decide +kernel)
theorem dX12_count_53 : decode cX12_count 53 = .ok (.ireturn, 1) := dq0 kk_172 (by decide +kernel)
set_option maxRecDepth 4000 in
theorem q_X12_count {l : Launch} {D : va_G} {B : Nat} {cy : Nat → ClassId} {M : Mem} {x : Int} (hx : (-2147483648) ≤ x ∧ x ≤ 2147483647) (hI : IvR M) : Ci l D B cy yX12_count cX12_count 2 (some .int) 9 211 [.ref (B + 146), .int (zI x)] M (fun r M1 => ∃ z : Int, r = zI z ∧ ((-1) ≤ z ∧ z ≤ 4095) ∧ IvR M1 ∧ Fr (fun b9 k9 => (b9 = 146 ∧ k9 = 3) ∨ (b9 = 146 ∧ k9 = 6) ∨ b9 = 148) M1 M) := by
  refine s_anyQ (by decide) (Nat.le_of_ble_eq_true rfl) ?_
  intro p e s m args below meth c ls Q F hr hlocks hQ w hl
  have F : CallFix p m c cX12_count 2 s args TB RX12 := F
  have hx := F.1
  have hb := F.2.1
  have hl : lv_has ls 2 [(0, .ref (B + 146)), (1, .int (zI x))] := hl
  have hF : Fr (fun b9 k9 => (b9 = 146 ∧ k9 = 3) ∨ (b9 = 146 ∧ k9 = 6) ∨ b9 = 148) M M := Fr.rf
  refine lv_iload_n hx hb dX12_count_0 rfl (lv_at hl 1 rfl) ?_
  rcases (show x = 0 ∨ x = 1 ∨ x = 2 ∨ x = 3 ∨ (x ≠ 0 ∧ x ≠ 1 ∧ x ≠ 2 ∧ x ≠ 3) by omega) with c1 | c1 | c1 | c1 | c1
  · refine r_val (v := zI 0) (congrArg zI c1) ?_
    refine lv_tableIn (tgt := 32) hx hb dX12_count_1 (by decide) (by decide) (off := 31) rfl (by decide) ?_
    refine lv_aload_n hx hb dX12_count_32 rfl (lv_at hl 0 rfl) ?_
    refine f_12_5 F w (a := 146) rfl tb_604 dX12_count_33 ?_
    obtain ⟨z2, bz2, ez2⟩ := IvR.ld (k := 5) hI (show ivr 146 5 = (0, 8) from rfl) (show 146 ≤ 146 ∧ 146 < 159 by decide)
    refine r_val ez2 ?_
    rw [hQ]
    exact e_i F w hr hlocks ⟨_, rfl, ⟨by omega, by omega⟩, hI, hF⟩ dX12_count_36
  · refine r_val (v := zI 1) (congrArg zI c1) ?_
    refine lv_tableIn (tgt := 37) hx hb dX12_count_1 (by decide) (by decide) (off := 36) rfl (by decide) ?_
    refine lv_aload_n hx hb dX12_count_37 rfl (lv_at hl 0 rfl) ?_
    refine f_12_20 F w (a := 146) rfl tb_650 dX12_count_38 ?_
    obtain ⟨z3, bz3, ez3⟩ := IvR.ld (k := 20) hI (show ivr 146 20 = (0, 12) from rfl) (show 146 ≤ 146 ∧ 146 < 159 by decide)
    refine r_val ez3 ?_
    rw [hQ]
    exact e_i F w hr hlocks ⟨_, rfl, ⟨by omega, by omega⟩, hI, hF⟩ dX12_count_41
  · refine r_val (v := zI 2) (congrArg zI c1) ?_
    refine lv_tableIn (tgt := 42) hx hb dX12_count_1 (by decide) (by decide) (off := 41) rfl (by decide) ?_
    refine lv_aload_n hx hb dX12_count_42 rfl (lv_at hl 0 rfl) ?_
    refine f_12_8 F w (a := 146) rfl tb_587 dX12_count_43 ?_
    obtain ⟨z4, bz4, ez4⟩ := IvR.ld (k := 8) hI (show ivr 146 8 = (0, 300) from rfl) (show 146 ≤ 146 ∧ 146 < 159 by decide)
    refine r_val ez4 ?_
    rw [hQ]
    exact e_i F w hr hlocks ⟨_, rfl, ⟨by omega, by omega⟩, hI, hF⟩ dX12_count_46
  · refine r_val (v := zI 3) (congrArg zI c1) ?_
    refine lv_tableIn (tgt := 47) hx hb dX12_count_1 (by decide) (by decide) (off := 46) rfl (by decide) ?_
    refine lv_aload_n hx hb dX12_count_47 rfl (lv_at hl 0 rfl) ?_
    refine k_Vi F w (As := []) (rest := []) (a := 146) (kd_lt (a := 146) (show kd 146 = (12, 0, 0) from rfl) (by decide)) (sh_12 rfl _ _) rfl (q_X12_idle   hI) gv_X12_324 hv_X12_idle ⟨(Nat.le_of_ble_eq_true rfl), (Nat.le_of_ble_eq_true rfl)⟩ hl.1 rfl (Nat.le_of_ble_eq_true rfl) ⟨Nat.zero_le _, Nat.zero_le _⟩ dX12_count_48 (fun r5 N6 H locs hp w => ?_)
    obtain ⟨z7, rfl, bz7, hIN6, hFN6⟩ := hp
    have hGN6 := Fr.tr hF hFN6 (S := (fun b9 k9 => (b9 = 146 ∧ k9 = 3) ∨ (b9 = 146 ∧ k9 = 6) ∨ b9 = 148)) (fun b k h => by (try dsimp only at h ⊢); rcases h with ⟨rfl, rfl⟩ | ⟨rfl, rfl⟩ | rfl <;> first | decide | omega)
    rw [hQ]
    exact e_i F w hr hlocks ⟨_, rfl, ⟨by omega, by omega⟩, hIN6, hGN6⟩ dX12_count_51
  · refine lv_tableOut (tgt := 52) hx hb dX12_count_1 (by rw [zI_toInt (by omega)]; omega) (by decide) ?_
    refine lv_iconst (v := zI (-1)) hx hb dX12_count_52 rfl ?_
    rw [hQ]
    exact e_i F w hr hlocks ⟨_, rfl, ⟨by omega, by omega⟩, hI, hF⟩ dX12_count_53
theorem dX12_back_0 : decode cX12_back 0 = .ok (.iload_n 1, 1) := dq0 kk_27 (by decide +kernel)
theorem dX12_back_1 : decode cX12_back 1 = .ok (.iconst 0, 1) := dq0 kk_3 (by decide +kernel)
theorem dX12_back_2 : decode cX12_back 2 = .ok (.aload_n 0, 1) := dq0 kk_42 (by decide +kernel)
theorem dX12_back_3 : decode cX12_back 3 = .ok (.getfield 169, 3) := dqV kk_180 (by decide +kernel)
theorem dX12_back_6 : decode cX12_back 6 = .ok (.invokestatic 55, 3) := dqV kk_184 (by decide +kernel)
theorem dX12_back_9 : decode cX12_back 9 = .ok (.ifCond .ne 5, 3) := dqT kk_154 (by decide +kernel)
theorem dX12_back_14 : decode cX12_back 14 = .ok (.aload_n 0, 1) := dq0 kk_42 (by decide +kernel)
theorem dX12_back_15 : decode cX12_back 15 = .ok (.dup, 1) := dq0 kk_89 (by decide +kernel)
theorem dX12_back_16 : decode cX12_back 16 = .ok (.getfield 169, 3) := dqV kk_180 (by decide +kernel)
theorem dX12_back_19 : decode cX12_back 19 = .ok (.iload_n 1, 1) := dq0 kk_27 (by decide +kernel)
theorem dX12_back_20 : decode cX12_back 20 = .ok (.isub, 1) := dq0 kk_100 (by decide +kernel)
theorem dX12_back_21 : decode cX12_back 21 = .ok (.putfield 169, 3) := dqV kk_181 (by decide +kernel)
theorem dX12_back_24 : decode cX12_back 24 = .ok (.aload_n 0, 1) := dq0 kk_42 (by decide +kernel)
theorem dX12_back_25 : decode cX12_back 25 = .ok (.getfield 169, 3) := dqV kk_180 (by decide +kernel)
theorem dX12_back_28 : decode cX12_back 28 = .ok (.ireturn, 1) := dq0 kk_172 (by decide +kernel)
theorem dX12_back_12 : decode cX12_back 12 = .ok (.iconst (-1), 1) := dq0 kk_2 (by decide +kernel)
theorem dX12_back_13 : decode cX12_back 13 = .ok (.ireturn, 1) := dq0 kk_172 (by decide +kernel)
set_option maxRecDepth 4000 in
theorem q_X12_back {l : Launch} {D : va_G} {B : Nat} {cy : Nat → ClassId} {M : Mem} {x : Int} (hx : (-2147483648) ≤ x ∧ x ≤ 2147483647) (hI : IvR M) : Ci l D B cy yX12_back cX12_back 2 (some .int) 1 22 [.ref (B + 146), .int (zI x)] M (fun r M1 => ∃ z : Int, r = zI z ∧ ((-2147483648) ≤ z ∧ z ≤ 2147483647) ∧ IvR M1 ∧ Fr (fun b9 k9 => (b9 = 146 ∧ k9 = 8)) M1 M) := by
  refine s_anyQ (by decide) (Nat.le_of_ble_eq_true rfl) ?_
  intro p e s m args below meth c ls Q F hr hlocks hQ w hl
  have F : CallFix p m c cX12_back 2 s args TB RX12 := F
  have hx := F.1
  have hb := F.2.1
  have hl : lv_has ls 2 [(0, .ref (B + 146)), (1, .int (zI x))] := hl
  have hF : Fr (fun b9 k9 => (b9 = 146 ∧ k9 = 8)) M M := Fr.rf
  refine lv_iload_n hx hb dX12_back_0 rfl (lv_at hl 1 rfl) ?_
  refine lv_iconst (v := zI 0) hx hb dX12_back_1 rfl ?_
  refine lv_aload_n hx hb dX12_back_2 rfl (lv_at hl 0 rfl) ?_
  refine f_12_8 F w (a := 146) rfl tb_587 dX12_back_3 ?_
  obtain ⟨z1, bz1, ez1⟩ := IvR.ld (k := 8) hI (show ivr 146 8 = (0, 300) from rfl) (show 146 ≤ 146 ∧ 146 < 159 by decide)
  refine r_val ez1 ?_
  refine k_Si F w (As := [.int (zI x), .int (zI 0), .int (zI z1)]) (rest := []) (q_X12_in (x := x) ⟨by omega, by omega⟩ (x1 := 0) ⟨by omega, by omega⟩ (x2 := z1) ⟨by omega, by omega⟩  hI) gs_X12_55 hs_X12_in ⟨(Nat.le_of_ble_eq_true rfl), (Nat.le_of_ble_eq_true rfl)⟩ hl.1 rfl (Nat.le_of_ble_eq_true rfl) ⟨Nat.zero_le _, Nat.zero_le _⟩ dX12_back_6 (fun r2 N3 H locs hp w => ?_)
  obtain ⟨z4, rfl, bz4, xz4, hMN3⟩ := hp
  rw [hMN3] at w
  refine z_if_ne (tgt := 14) hx hb (by omega) dX12_back_9 (by decide) (fun c5 => ?_) (fun c5 => ?_)
  · refine lv_aload_n hx hb dX12_back_14 rfl (lv_at hl 0 rfl) ?_
    refine lv_dup hx hb dX12_back_15 rfl ?_
    refine f_12_8 F w (a := 146) rfl tb_587 dX12_back_16 ?_
    refine r_val (v := zI z1) (ez1) ?_
    refine lv_iload_n hx hb dX12_back_19 rfl (lv_at hl 1 rfl) ?_
    obtain ⟨z6, bz6, x0z6, ez6⟩ := sub_ex z1 x
    refine lv_isub hx hb dX12_back_20 ?_
    refine r_val ez6 ?_
    refine u_12_8 F w (a := 146) rfl tb_587 dX12_back_21 (fun H locs w => ?_)
    refine lv_aload_n hx hb dX12_back_24 rfl (lv_at hl 0 rfl) ?_
    refine f_12_8 F w (a := 146) rfl tb_587 dX12_back_25 ?_
    refine r_val (v := zI z6) (st_at) ?_
    rw [hQ]
    exact e_i F w hr hlocks ⟨_, rfl, ⟨by omega, by omega⟩, (IvR.to hI (a := 146) (k := 8) (x := z6) (show ivr 146 8 = (0, 300) from rfl) ⟨by omega, by omega⟩ ⟨by decide, by decide, by decide, fun q9 => absurd q9 (by decide)⟩), (Fr.to hF (by first | decide | (dsimp only; first | done | decide | omega) | omega))⟩ dX12_back_28
  · refine lv_iconst (v := zI (-1)) hx hb dX12_back_12 rfl ?_
    rw [hQ]
    exact e_i F w hr hlocks ⟨_, rfl, ⟨by omega, by omega⟩, hI, hF⟩ dX12_back_13
theorem dX12_feed_0 : decode cX12_feed 0 = .ok (.aload_n 0, 1) := rdX12_feed_0
theorem dX12_feed_1 : decode cX12_feed 1 = .ok (.getfield 169, 3) := rdX12_feed_1
theorem dX12_feed_4 : decode cX12_feed 4 = .ok (.bipush 20, 2) := rdX12_feed_4
theorem dX12_feed_6 : decode cX12_feed 6 = .ok (.iadd, 1) := rdX12_feed_6
theorem dX12_feed_7 : decode cX12_feed 7 = .ok (.sipush 300, 3) := rdX12_feed_7
theorem dX12_feed_10 : decode cX12_feed 10 = .ok (.if_icmp .le 5, 3) := rdX12_feed_10
theorem dX12_feed_15 : decode cX12_feed 15 = .ok (.iconst 0, 1) := rdX12_feed_15
theorem dX12_feed_16 : decode cX12_feed 16 = .ok (.istore 6, 2) := rdX12_feed_16
theorem dX12_feed_18 : decode cX12_feed 18 = .ok (.iload 6, 2) := rdX12_feed_18
theorem dX12_feed_20 : decode cX12_feed 20 = .ok (.bipush 20, 2) := rdX12_feed_20
theorem dX12_feed_22 : decode cX12_feed 22 = .ok (.if_icmp .ge 93, 3) := rdX12_feed_22
theorem dX12_feed_25 : decode cX12_feed 25 = .ok (.iload 6, 2) := rdX12_feed_25
theorem dX12_feed_27 : decode cX12_feed 27 = .ok (.iconst 4, 1) := rdX12_feed_27
theorem dX12_feed_28 : decode cX12_feed 28 = .ok (.if_icmp .ge 7, 3) := rdX12_feed_28
theorem dX12_feed_31 : decode cX12_feed 31 = .ok (.iload_n 1, 1) := rdX12_feed_31
theorem dX12_feed_32 : decode cX12_feed 32 = .ok (.goto 39, 3) := rdX12_feed_32
theorem dX12_feed_71 : decode cX12_feed 71 = .ok (.istore 7, 2) := rdX12_feed_71
theorem dX12_feed_73 : decode cX12_feed 73 = .ok (.aload_n 0, 1) := rdX12_feed_73
theorem dX12_feed_74 : decode cX12_feed 74 = .ok (.getfield 23, 3) := rdX12_feed_74
theorem dX12_feed_77 : decode cX12_feed 77 = .ok (.aload_n 0, 1) := rdX12_feed_77
theorem dX12_feed_78 : decode cX12_feed 78 = .ok (.getfield 169, 3) := rdX12_feed_78
theorem dX12_feed_81 : decode cX12_feed 81 = .ok (.iload 7, 2) := rdX12_feed_81
theorem dX12_feed_83 : decode cX12_feed 83 = .ok (.bipush 24, 2) := rdX12_feed_83
theorem dX12_feed_85 : decode cX12_feed 85 = .ok (.bipush 8, 2) := rdX12_feed_85
theorem dX12_feed_87 : decode cX12_feed 87 = .ok (.iload 6, 2) := rdX12_feed_87
theorem dX12_feed_89 : decode cX12_feed 89 = .ok (.iconst 4, 1) := rdX12_feed_89
theorem dX12_feed_90 : decode cX12_feed 90 = .ok (.irem, 1) := rdX12_feed_90
theorem dX12_feed_91 : decode cX12_feed 91 = .ok (.imul, 1) := rdX12_feed_91
theorem dX12_feed_92 : decode cX12_feed 92 = .ok (.isub, 1) := rdX12_feed_92
theorem dX12_feed_93 : decode cX12_feed 93 = .ok (.ishr, 1) := rdX12_feed_93
theorem dX12_feed_94 : decode cX12_feed 94 = .ok (.sipush 255, 3) := rdX12_feed_94
theorem dX12_feed_97 : decode cX12_feed 97 = .ok (.iand, 1) := rdX12_feed_97
theorem dX12_feed_98 : decode cX12_feed 98 = .ok (.iastore, 1) := rdX12_feed_98
theorem dX12_feed_99 : decode cX12_feed 99 = .ok (.aload_n 0, 1) := rdX12_feed_99
theorem dX12_feed_100 : decode cX12_feed 100 = .ok (.dup, 1) := rdX12_feed_100
theorem dX12_feed_101 : decode cX12_feed 101 = .ok (.getfield 169, 3) := rdX12_feed_101
theorem dX12_feed_104 : decode cX12_feed 104 = .ok (.iconst 1, 1) := rdX12_feed_104
theorem dX12_feed_105 : decode cX12_feed 105 = .ok (.iadd, 1) := rdX12_feed_105
theorem dX12_feed_106 : decode cX12_feed 106 = .ok (.putfield 169, 3) := rdX12_feed_106
theorem dX12_feed_109 : decode cX12_feed 109 = .ok (.iinc 6 1, 3) := rdX12_feed_109
theorem dX12_feed_112 : decode cX12_feed 112 = .ok (.goto (-94), 3) := rdX12_feed_112
theorem dX12_feed_35 : decode cX12_feed 35 = .ok (.iload 6, 2) := rdX12_feed_35
theorem dX12_feed_37 : decode cX12_feed 37 = .ok (.bipush 8, 2) := rdX12_feed_37
theorem dX12_feed_39 : decode cX12_feed 39 = .ok (.if_icmp .ge 7, 3) := rdX12_feed_39
theorem dX12_feed_42 : decode cX12_feed 42 = .ok (.iload_n 2, 1) := rdX12_feed_42
theorem dX12_feed_43 : decode cX12_feed 43 = .ok (.goto 28, 3) := rdX12_feed_43
theorem dX12_feed_46 : decode cX12_feed 46 = .ok (.iload 6, 2) := rdX12_feed_46
theorem dX12_feed_48 : decode cX12_feed 48 = .ok (.bipush 12, 2) := rdX12_feed_48
theorem dX12_feed_50 : decode cX12_feed 50 = .ok (.if_icmp .ge 7, 3) := rdX12_feed_50
theorem dX12_feed_53 : decode cX12_feed 53 = .ok (.iload_n 3, 1) := rdX12_feed_53
theorem dX12_feed_54 : decode cX12_feed 54 = .ok (.goto 17, 3) := rdX12_feed_54
theorem dX12_feed_57 : decode cX12_feed 57 = .ok (.iload 6, 2) := rdX12_feed_57
theorem dX12_feed_59 : decode cX12_feed 59 = .ok (.bipush 16, 2) := rdX12_feed_59
theorem dX12_feed_61 : decode cX12_feed 61 = .ok (.if_icmp .ge 8, 3) := rdX12_feed_61
theorem dX12_feed_64 : decode cX12_feed 64 = .ok (.iload 4, 2) := rdX12_feed_64
theorem dX12_feed_66 : decode cX12_feed 66 = .ok (.goto 5, 3) := rdX12_feed_66
theorem dX12_feed_115 : decode cX12_feed 115 = .ok (.aload_n 0, 1) := rdX12_feed_115
theorem dX12_feed_116 : decode cX12_feed 116 = .ok (.getfield 169, 3) := rdX12_feed_116
theorem dX12_feed_119 : decode cX12_feed 119 = .ok (.ireturn, 1) := rdX12_feed_119
theorem dX12_feed_69 : decode cX12_feed 69 = .ok (.iload 5, 2) := rdX12_feed_69
theorem dX12_feed_13 : decode cX12_feed 13 = .ok (.iconst (-1), 1) := rdX12_feed_13
theorem dX12_feed_14 : decode cX12_feed 14 = .ok (.ireturn, 1) := rdX12_feed_14
set_option maxRecDepth 4000 in
theorem q_X12_feed {l : Launch} {D : va_G} {B : Nat} {cy : Nat → ClassId} {M : Mem} {x : Int} (hx : (-2147483648) ≤ x ∧ x ≤ 2147483647) {x1 : Int} (hx1 : (-2147483648) ≤ x1 ∧ x1 ≤ 2147483647) {x2 : Int} (hx2 : (-2147483648) ≤ x2 ∧ x2 ≤ 2147483647) {x3 : Int} (hx3 : (-2147483648) ≤ x3 ∧ x3 ≤ 2147483647) {x4 : Int} (hx4 : (-2147483648) ≤ x4 ∧ x4 ≤ 2147483647) (hI : IvR M) : Ci l D B cy yX12_feed cX12_feed 8 (some .int) 0 0 [.ref (B + 146), .int (zI x), .int (zI x1), .int (zI x2), .int (zI x3), .int (zI x4)] M (fun r M1 => ∃ z : Int, r = zI z ∧ ((-1) ≤ z ∧ z ≤ 300) ∧ IvR M1 ∧ Fr (fun b9 k9 => (b9 = 146 ∧ k9 = 8) ∨ b9 = 150) M1 M) := by
  refine s_anyQ (by decide) (Nat.le_of_ble_eq_true rfl) ?_
  intro p e s m args below meth c ls Q F hr hlocks hQ w hl
  have F : CallFix p m c cX12_feed 8 s args TB RX12 := F
  have hx := F.1
  have hb := F.2.1
  have hl : lv_has ls 8 [(0, .ref (B + 146)), (1, .int (zI x)), (2, .int (zI x1)), (3, .int (zI x2)), (4, .int (zI x3)), (5, .int (zI x4))] := hl
  have hF : Fr (fun b9 k9 => (b9 = 146 ∧ k9 = 8) ∨ b9 = 150) M M := Fr.rf
  refine lv_aload_n hx hb dX12_feed_0 rfl (lv_at hl 0 rfl) ?_
  refine f_12_8 F w (a := 146) rfl tb_587 dX12_feed_1 ?_
  obtain ⟨z1, bz1, ez1⟩ := IvR.ld (k := 8) hI (show ivr 146 8 = (0, 300) from rfl) (show 146 ≤ 146 ∧ 146 < 159 by decide)
  refine r_val ez1 ?_
  refine lv_bipush (v := zI 20) hx hb dX12_feed_4 (by decide) ?_
  refine z_iadd (z := (z1 + 20)) hx hb dX12_feed_6 (by omega) ?_
  refine lv_sipush (v := zI 300) hx hb dX12_feed_7 (by decide) ?_
  refine z_icmp_le (tgt := 15) hx hb (by omega) (by omega) dX12_feed_10 (by decide) (fun c2 => ?_) (fun c2 => ?_)
  · refine lv_iconst (v := zI 0) hx hb dX12_feed_15 rfl ?_
    refine lv_istore (lv' := [(6, .int (zI 0)), (0, .ref (B + 146)), (1, .int (zI x)), (2, .int (zI x1)), (3, .int (zI x2)), (4, .int (zI x3)), (5, .int (zI x4))]) hx hb dX12_feed_16 hl (by decide) rfl (fun ls hl => ?_)
    have lp18 : ∀ (f : Nat) (v6_18 : Int) (g146_8_18 : Int) (NL18 : Mem), (0 ≤ v6_18 ∧ v6_18 ≤ 20) → (0 ≤ g146_8_18 ∧ g146_8_18 ≤ 300) → NL18.1 146 8 = zI g146_8_18 → (g146_8_18 ≤ 280 + v6_18) → IvR NL18 → Fr (fun b9 k9 => (b9 = 146 ∧ k9 = 8) ∨ b9 = 150) NL18 M → (Int.toNat (20 - v6_18) < f) → ∀ (H : Heap) (locs : List Loc) (ls : Array Slot), Wd D B cy s s.heap NL18 H locs → lv_has ls 8 [(6, .int (zI v6_18)), (0, .ref (B + 146)), (1, .int (zI x)), (2, .int (zI x1)), (3, .int (zI x2)), (4, .int (zI x3)), (5, .int (zI x4))] → W p l e (rmm 0 0) s m args below meth c H locs 0 0 Q (F0 m 18 ls []) := by
      intro f
      induction f with
      | zero => intros; omega
      | succ f ih18 =>
        intro v6_18 g146_8_18 NL18 iv6_18 ig146_8_18 eg146_8_18 y18_0 hIL18 hFL18 hf18 H locs ls w hl
        refine lv_iload hx hb dX12_feed_18 (lv_at hl 0 rfl) ?_
        refine lv_bipush (v := zI 20) hx hb dX12_feed_20 (by decide) ?_
        refine z_icmp_ge (tgt := 115) hx hb (by omega) (by omega) dX12_feed_22 (by decide) (fun c3 => ?_) (fun c3 => ?_)
        · refine lv_aload_n hx hb dX12_feed_115 rfl (lv_at hl 1 rfl) ?_
          refine f_12_8 F w (a := 146) rfl tb_587 dX12_feed_116 ?_
          refine r_val (v := zI g146_8_18) (eg146_8_18) ?_
          rw [hQ]
          exact e_i F w hr hlocks ⟨_, rfl, ⟨by omega, by omega⟩, hIL18, hFL18⟩ dX12_feed_119
        · refine lv_iload hx hb dX12_feed_25 (lv_at hl 0 rfl) ?_
          refine lv_iconst (v := zI 4) hx hb dX12_feed_27 rfl ?_
          refine z_icmp_ge (tgt := 35) hx hb (by omega) (by omega) dX12_feed_28 (by decide) (fun c4 => ?_) (fun c4 => ?_)
          · refine lv_iload hx hb dX12_feed_35 (lv_at hl 0 rfl) ?_
            refine lv_bipush (v := zI 8) hx hb dX12_feed_37 (by decide) ?_
            refine z_icmp_ge (tgt := 46) hx hb (by omega) (by omega) dX12_feed_39 (by decide) (fun c5 => ?_) (fun c5 => ?_)
            · refine lv_iload hx hb dX12_feed_46 (lv_at hl 0 rfl) ?_
              refine lv_bipush (v := zI 12) hx hb dX12_feed_48 (by decide) ?_
              refine z_icmp_ge (tgt := 57) hx hb (by omega) (by omega) dX12_feed_50 (by decide) (fun c6 => ?_) (fun c6 => ?_)
              · refine lv_iload hx hb dX12_feed_57 (lv_at hl 0 rfl) ?_
                refine lv_bipush (v := zI 16) hx hb dX12_feed_59 (by decide) ?_
                refine z_icmp_ge (tgt := 69) hx hb (by omega) (by omega) dX12_feed_61 (by decide) (fun c7 => ?_) (fun c7 => ?_)
                · refine lv_iload hx hb dX12_feed_69 (lv_at hl 6 rfl) ?_
                  refine lv_istore (lv' := [(7, .int (zI x4)), (6, .int (zI v6_18)), (0, .ref (B + 146)), (1, .int (zI x)), (2, .int (zI x1)), (3, .int (zI x2)), (4, .int (zI x3)), (5, .int (zI x4))]) hx hb dX12_feed_71 hl (by decide) rfl (fun ls hl => ?_)
                  refine lv_aload_n hx hb dX12_feed_73 rfl (lv_at hl 2 rfl) ?_
                  refine f_12_7 F w (a := 146) rfl tb_588 dX12_feed_74 ?_
                  refine lv_aload_n hx hb dX12_feed_77 rfl (lv_at hl 2 rfl) ?_
                  refine f_12_8 F w (a := 146) rfl tb_587 dX12_feed_78 ?_
                  refine r_val (v := zI g146_8_18) (eg146_8_18) ?_
                  refine lv_iload hx hb dX12_feed_81 (lv_at hl 0 rfl) ?_
                  refine lv_bipush (v := zI 24) hx hb dX12_feed_83 (by decide) ?_
                  refine lv_bipush (v := zI 8) hx hb dX12_feed_85 (by decide) ?_
                  refine lv_iload hx hb dX12_feed_87 (lv_at hl 1 rfl) ?_
                  refine lv_iconst (v := zI 4) hx hb dX12_feed_89 rfl ?_
                  refine lv_irem hx hb dX12_feed_90 (nz_z (by omega) (by omega)) ?_
                  obtain ⟨z8, bz8, x0z8, ez8⟩ := rem_ex v6_18 4 (by omega) (by omega)
                  refine r_val ez8 ?_
                  refine z_imul (z := (8 * z8)) hx hb dX12_feed_91 (by omega) ?_
                  refine z_isub (z := (24 - (8 * z8))) hx hb dX12_feed_92 (by omega) ?_
                  obtain ⟨z9, bz9, x0z9, ez9⟩ := shr_ex x4 (24 - (8 * z8)) (by omega)
                  refine lv_ishr hx hb dX12_feed_93 ?_
                  refine r_val ez9 ?_
                  refine lv_sipush (v := zI 255) hx hb dX12_feed_94 (by decide) ?_
                  obtain ⟨z10, bz10, x0z10, x1z10, ez10⟩ := and_ex z9 255 (by omega) (by omega)
                  refine lv_iand hx hb dX12_feed_97 ?_
                  refine r_val ez10 ?_
                  refine g_iast F w (a := 150) rfl (j := (Int.toNat g146_8_18)) (ix_z (by omega) (by omega)) (by omega) dX12_feed_98 (fun H locs w => ?_)
                  refine lv_aload_n hx hb dX12_feed_99 rfl (lv_at hl 2 rfl) ?_
                  refine lv_dup hx hb dX12_feed_100 rfl ?_
                  refine f_12_8 F w (a := 146) rfl tb_587 dX12_feed_101 ?_
                  refine r_val (v := zI g146_8_18) ((st_ne (Or.inl (by decide))).trans eg146_8_18) ?_
                  refine lv_iconst (v := zI 1) hx hb dX12_feed_104 rfl ?_
                  refine z_iadd (z := (g146_8_18 + 1)) hx hb dX12_feed_105 (by omega) ?_
                  refine u_12_8 F w (a := 146) rfl tb_587 dX12_feed_106 (fun H locs w => ?_)
                  refine z_iinc (v := (v6_18 + 1)) (lv' := [(6, .int (zI (v6_18 + 1))), (7, .int (zI x4)), (0, .ref (B + 146)), (1, .int (zI x)), (2, .int (zI x1)), (3, .int (zI x2)), (4, .int (zI x3)), (5, .int (zI x4))]) hx hb dX12_feed_109 hl (k := 1) rfl (by omega) (by decide) rfl (fun ls hl => ?_)
                  refine lv_goto (tgt := 18) hx hb dX12_feed_112 (by decide) ?_
                  exact ih18 (v6_18 + 1) (g146_8_18 + 1) (st (st NL18 150 (Int.toNat g146_8_18) (zI z10)) 146 8 (zI (g146_8_18 + 1))) (by omega) (by omega) (st_at) (by omega) (IvR.to (IvR.to hIL18 (a := 150) (k := (Int.toNat g146_8_18)) (x := z10) (show ivr 150 (Int.toNat g146_8_18) = (0, 255) from rfl) ⟨by omega, by omega⟩ ⟨by decide, by decide, by decide, fun q9 => absurd q9 (by decide)⟩) (a := 146) (k := 8) (x := (g146_8_18 + 1)) (show ivr 146 8 = (0, 300) from rfl) ⟨by omega, by omega⟩ ⟨by decide, by decide, by decide, fun q9 => absurd q9 (by decide)⟩) (Fr.to (Fr.to hFL18 (by first | decide | (dsimp only; first | done | decide | omega) | omega)) (by first | decide | (dsimp only; first | done | decide | omega) | omega)) (by omega) _ _ _ w (lv_sub hl [0, 2, 3, 4, 5, 6, 7] rfl)
                · refine lv_iload hx hb dX12_feed_64 (lv_at hl 5 rfl) ?_
                  refine lv_goto (tgt := 71) hx hb dX12_feed_66 (by decide) ?_
                  refine lv_istore (lv' := [(7, .int (zI x3)), (6, .int (zI v6_18)), (0, .ref (B + 146)), (1, .int (zI x)), (2, .int (zI x1)), (3, .int (zI x2)), (4, .int (zI x3)), (5, .int (zI x4))]) hx hb dX12_feed_71 hl (by decide) rfl (fun ls hl => ?_)
                  refine lv_aload_n hx hb dX12_feed_73 rfl (lv_at hl 2 rfl) ?_
                  refine f_12_7 F w (a := 146) rfl tb_588 dX12_feed_74 ?_
                  refine lv_aload_n hx hb dX12_feed_77 rfl (lv_at hl 2 rfl) ?_
                  refine f_12_8 F w (a := 146) rfl tb_587 dX12_feed_78 ?_
                  refine r_val (v := zI g146_8_18) (eg146_8_18) ?_
                  refine lv_iload hx hb dX12_feed_81 (lv_at hl 0 rfl) ?_
                  refine lv_bipush (v := zI 24) hx hb dX12_feed_83 (by decide) ?_
                  refine lv_bipush (v := zI 8) hx hb dX12_feed_85 (by decide) ?_
                  refine lv_iload hx hb dX12_feed_87 (lv_at hl 1 rfl) ?_
                  refine lv_iconst (v := zI 4) hx hb dX12_feed_89 rfl ?_
                  refine lv_irem hx hb dX12_feed_90 (nz_z (by omega) (by omega)) ?_
                  obtain ⟨z11, bz11, x0z11, ez11⟩ := rem_ex v6_18 4 (by omega) (by omega)
                  refine r_val ez11 ?_
                  refine z_imul (z := (8 * z11)) hx hb dX12_feed_91 (by omega) ?_
                  refine z_isub (z := (24 - (8 * z11))) hx hb dX12_feed_92 (by omega) ?_
                  obtain ⟨z12, bz12, x0z12, ez12⟩ := shr_ex x3 (24 - (8 * z11)) (by omega)
                  refine lv_ishr hx hb dX12_feed_93 ?_
                  refine r_val ez12 ?_
                  refine lv_sipush (v := zI 255) hx hb dX12_feed_94 (by decide) ?_
                  obtain ⟨z13, bz13, x0z13, x1z13, ez13⟩ := and_ex z12 255 (by omega) (by omega)
                  refine lv_iand hx hb dX12_feed_97 ?_
                  refine r_val ez13 ?_
                  refine g_iast F w (a := 150) rfl (j := (Int.toNat g146_8_18)) (ix_z (by omega) (by omega)) (by omega) dX12_feed_98 (fun H locs w => ?_)
                  refine lv_aload_n hx hb dX12_feed_99 rfl (lv_at hl 2 rfl) ?_
                  refine lv_dup hx hb dX12_feed_100 rfl ?_
                  refine f_12_8 F w (a := 146) rfl tb_587 dX12_feed_101 ?_
                  refine r_val (v := zI g146_8_18) ((st_ne (Or.inl (by decide))).trans eg146_8_18) ?_
                  refine lv_iconst (v := zI 1) hx hb dX12_feed_104 rfl ?_
                  refine z_iadd (z := (g146_8_18 + 1)) hx hb dX12_feed_105 (by omega) ?_
                  refine u_12_8 F w (a := 146) rfl tb_587 dX12_feed_106 (fun H locs w => ?_)
                  refine z_iinc (v := (v6_18 + 1)) (lv' := [(6, .int (zI (v6_18 + 1))), (7, .int (zI x3)), (0, .ref (B + 146)), (1, .int (zI x)), (2, .int (zI x1)), (3, .int (zI x2)), (4, .int (zI x3)), (5, .int (zI x4))]) hx hb dX12_feed_109 hl (k := 1) rfl (by omega) (by decide) rfl (fun ls hl => ?_)
                  refine lv_goto (tgt := 18) hx hb dX12_feed_112 (by decide) ?_
                  exact ih18 (v6_18 + 1) (g146_8_18 + 1) (st (st NL18 150 (Int.toNat g146_8_18) (zI z13)) 146 8 (zI (g146_8_18 + 1))) (by omega) (by omega) (st_at) (by omega) (IvR.to (IvR.to hIL18 (a := 150) (k := (Int.toNat g146_8_18)) (x := z13) (show ivr 150 (Int.toNat g146_8_18) = (0, 255) from rfl) ⟨by omega, by omega⟩ ⟨by decide, by decide, by decide, fun q9 => absurd q9 (by decide)⟩) (a := 146) (k := 8) (x := (g146_8_18 + 1)) (show ivr 146 8 = (0, 300) from rfl) ⟨by omega, by omega⟩ ⟨by decide, by decide, by decide, fun q9 => absurd q9 (by decide)⟩) (Fr.to (Fr.to hFL18 (by first | decide | (dsimp only; first | done | decide | omega) | omega)) (by first | decide | (dsimp only; first | done | decide | omega) | omega)) (by omega) _ _ _ w (lv_sub hl [0, 2, 3, 4, 5, 6, 7] rfl)
              · refine lv_iload_n hx hb dX12_feed_53 rfl (lv_at hl 4 rfl) ?_
                refine lv_goto (tgt := 71) hx hb dX12_feed_54 (by decide) ?_
                refine lv_istore (lv' := [(7, .int (zI x2)), (6, .int (zI v6_18)), (0, .ref (B + 146)), (1, .int (zI x)), (2, .int (zI x1)), (3, .int (zI x2)), (4, .int (zI x3)), (5, .int (zI x4))]) hx hb dX12_feed_71 hl (by decide) rfl (fun ls hl => ?_)
                refine lv_aload_n hx hb dX12_feed_73 rfl (lv_at hl 2 rfl) ?_
                refine f_12_7 F w (a := 146) rfl tb_588 dX12_feed_74 ?_
                refine lv_aload_n hx hb dX12_feed_77 rfl (lv_at hl 2 rfl) ?_
                refine f_12_8 F w (a := 146) rfl tb_587 dX12_feed_78 ?_
                refine r_val (v := zI g146_8_18) (eg146_8_18) ?_
                refine lv_iload hx hb dX12_feed_81 (lv_at hl 0 rfl) ?_
                refine lv_bipush (v := zI 24) hx hb dX12_feed_83 (by decide) ?_
                refine lv_bipush (v := zI 8) hx hb dX12_feed_85 (by decide) ?_
                refine lv_iload hx hb dX12_feed_87 (lv_at hl 1 rfl) ?_
                refine lv_iconst (v := zI 4) hx hb dX12_feed_89 rfl ?_
                refine lv_irem hx hb dX12_feed_90 (nz_z (by omega) (by omega)) ?_
                obtain ⟨z14, bz14, x0z14, ez14⟩ := rem_ex v6_18 4 (by omega) (by omega)
                refine r_val ez14 ?_
                refine z_imul (z := (8 * z14)) hx hb dX12_feed_91 (by omega) ?_
                refine z_isub (z := (24 - (8 * z14))) hx hb dX12_feed_92 (by omega) ?_
                obtain ⟨z15, bz15, x0z15, ez15⟩ := shr_ex x2 (24 - (8 * z14)) (by omega)
                refine lv_ishr hx hb dX12_feed_93 ?_
                refine r_val ez15 ?_
                refine lv_sipush (v := zI 255) hx hb dX12_feed_94 (by decide) ?_
                obtain ⟨z16, bz16, x0z16, x1z16, ez16⟩ := and_ex z15 255 (by omega) (by omega)
                refine lv_iand hx hb dX12_feed_97 ?_
                refine r_val ez16 ?_
                refine g_iast F w (a := 150) rfl (j := (Int.toNat g146_8_18)) (ix_z (by omega) (by omega)) (by omega) dX12_feed_98 (fun H locs w => ?_)
                refine lv_aload_n hx hb dX12_feed_99 rfl (lv_at hl 2 rfl) ?_
                refine lv_dup hx hb dX12_feed_100 rfl ?_
                refine f_12_8 F w (a := 146) rfl tb_587 dX12_feed_101 ?_
                refine r_val (v := zI g146_8_18) ((st_ne (Or.inl (by decide))).trans eg146_8_18) ?_
                refine lv_iconst (v := zI 1) hx hb dX12_feed_104 rfl ?_
                refine z_iadd (z := (g146_8_18 + 1)) hx hb dX12_feed_105 (by omega) ?_
                refine u_12_8 F w (a := 146) rfl tb_587 dX12_feed_106 (fun H locs w => ?_)
                refine z_iinc (v := (v6_18 + 1)) (lv' := [(6, .int (zI (v6_18 + 1))), (7, .int (zI x2)), (0, .ref (B + 146)), (1, .int (zI x)), (2, .int (zI x1)), (3, .int (zI x2)), (4, .int (zI x3)), (5, .int (zI x4))]) hx hb dX12_feed_109 hl (k := 1) rfl (by omega) (by decide) rfl (fun ls hl => ?_)
                refine lv_goto (tgt := 18) hx hb dX12_feed_112 (by decide) ?_
                exact ih18 (v6_18 + 1) (g146_8_18 + 1) (st (st NL18 150 (Int.toNat g146_8_18) (zI z16)) 146 8 (zI (g146_8_18 + 1))) (by omega) (by omega) (st_at) (by omega) (IvR.to (IvR.to hIL18 (a := 150) (k := (Int.toNat g146_8_18)) (x := z16) (show ivr 150 (Int.toNat g146_8_18) = (0, 255) from rfl) ⟨by omega, by omega⟩ ⟨by decide, by decide, by decide, fun q9 => absurd q9 (by decide)⟩) (a := 146) (k := 8) (x := (g146_8_18 + 1)) (show ivr 146 8 = (0, 300) from rfl) ⟨by omega, by omega⟩ ⟨by decide, by decide, by decide, fun q9 => absurd q9 (by decide)⟩) (Fr.to (Fr.to hFL18 (by first | decide | (dsimp only; first | done | decide | omega) | omega)) (by first | decide | (dsimp only; first | done | decide | omega) | omega)) (by omega) _ _ _ w (lv_sub hl [0, 2, 3, 4, 5, 6, 7] rfl)
            · refine lv_iload_n hx hb dX12_feed_42 rfl (lv_at hl 3 rfl) ?_
              refine lv_goto (tgt := 71) hx hb dX12_feed_43 (by decide) ?_
              refine lv_istore (lv' := [(7, .int (zI x1)), (6, .int (zI v6_18)), (0, .ref (B + 146)), (1, .int (zI x)), (2, .int (zI x1)), (3, .int (zI x2)), (4, .int (zI x3)), (5, .int (zI x4))]) hx hb dX12_feed_71 hl (by decide) rfl (fun ls hl => ?_)
              refine lv_aload_n hx hb dX12_feed_73 rfl (lv_at hl 2 rfl) ?_
              refine f_12_7 F w (a := 146) rfl tb_588 dX12_feed_74 ?_
              refine lv_aload_n hx hb dX12_feed_77 rfl (lv_at hl 2 rfl) ?_
              refine f_12_8 F w (a := 146) rfl tb_587 dX12_feed_78 ?_
              refine r_val (v := zI g146_8_18) (eg146_8_18) ?_
              refine lv_iload hx hb dX12_feed_81 (lv_at hl 0 rfl) ?_
              refine lv_bipush (v := zI 24) hx hb dX12_feed_83 (by decide) ?_
              refine lv_bipush (v := zI 8) hx hb dX12_feed_85 (by decide) ?_
              refine lv_iload hx hb dX12_feed_87 (lv_at hl 1 rfl) ?_
              refine lv_iconst (v := zI 4) hx hb dX12_feed_89 rfl ?_
              refine lv_irem hx hb dX12_feed_90 (nz_z (by omega) (by omega)) ?_
              obtain ⟨z17, bz17, x0z17, ez17⟩ := rem_ex v6_18 4 (by omega) (by omega)
              refine r_val ez17 ?_
              refine z_imul (z := (8 * z17)) hx hb dX12_feed_91 (by omega) ?_
              refine z_isub (z := (24 - (8 * z17))) hx hb dX12_feed_92 (by omega) ?_
              obtain ⟨z18, bz18, x0z18, ez18⟩ := shr_ex x1 (24 - (8 * z17)) (by omega)
              refine lv_ishr hx hb dX12_feed_93 ?_
              refine r_val ez18 ?_
              refine lv_sipush (v := zI 255) hx hb dX12_feed_94 (by decide) ?_
              obtain ⟨z19, bz19, x0z19, x1z19, ez19⟩ := and_ex z18 255 (by omega) (by omega)
              refine lv_iand hx hb dX12_feed_97 ?_
              refine r_val ez19 ?_
              refine g_iast F w (a := 150) rfl (j := (Int.toNat g146_8_18)) (ix_z (by omega) (by omega)) (by omega) dX12_feed_98 (fun H locs w => ?_)
              refine lv_aload_n hx hb dX12_feed_99 rfl (lv_at hl 2 rfl) ?_
              refine lv_dup hx hb dX12_feed_100 rfl ?_
              refine f_12_8 F w (a := 146) rfl tb_587 dX12_feed_101 ?_
              refine r_val (v := zI g146_8_18) ((st_ne (Or.inl (by decide))).trans eg146_8_18) ?_
              refine lv_iconst (v := zI 1) hx hb dX12_feed_104 rfl ?_
              refine z_iadd (z := (g146_8_18 + 1)) hx hb dX12_feed_105 (by omega) ?_
              refine u_12_8 F w (a := 146) rfl tb_587 dX12_feed_106 (fun H locs w => ?_)
              refine z_iinc (v := (v6_18 + 1)) (lv' := [(6, .int (zI (v6_18 + 1))), (7, .int (zI x1)), (0, .ref (B + 146)), (1, .int (zI x)), (2, .int (zI x1)), (3, .int (zI x2)), (4, .int (zI x3)), (5, .int (zI x4))]) hx hb dX12_feed_109 hl (k := 1) rfl (by omega) (by decide) rfl (fun ls hl => ?_)
              refine lv_goto (tgt := 18) hx hb dX12_feed_112 (by decide) ?_
              exact ih18 (v6_18 + 1) (g146_8_18 + 1) (st (st NL18 150 (Int.toNat g146_8_18) (zI z19)) 146 8 (zI (g146_8_18 + 1))) (by omega) (by omega) (st_at) (by omega) (IvR.to (IvR.to hIL18 (a := 150) (k := (Int.toNat g146_8_18)) (x := z19) (show ivr 150 (Int.toNat g146_8_18) = (0, 255) from rfl) ⟨by omega, by omega⟩ ⟨by decide, by decide, by decide, fun q9 => absurd q9 (by decide)⟩) (a := 146) (k := 8) (x := (g146_8_18 + 1)) (show ivr 146 8 = (0, 300) from rfl) ⟨by omega, by omega⟩ ⟨by decide, by decide, by decide, fun q9 => absurd q9 (by decide)⟩) (Fr.to (Fr.to hFL18 (by first | decide | (dsimp only; first | done | decide | omega) | omega)) (by first | decide | (dsimp only; first | done | decide | omega) | omega)) (by omega) _ _ _ w (lv_sub hl [0, 2, 3, 4, 5, 6, 7] rfl)
          · refine lv_iload_n hx hb dX12_feed_31 rfl (lv_at hl 2 rfl) ?_
            refine lv_goto (tgt := 71) hx hb dX12_feed_32 (by decide) ?_
            refine lv_istore (lv' := [(7, .int (zI x)), (6, .int (zI v6_18)), (0, .ref (B + 146)), (1, .int (zI x)), (2, .int (zI x1)), (3, .int (zI x2)), (4, .int (zI x3)), (5, .int (zI x4))]) hx hb dX12_feed_71 hl (by decide) rfl (fun ls hl => ?_)
            refine lv_aload_n hx hb dX12_feed_73 rfl (lv_at hl 2 rfl) ?_
            refine f_12_7 F w (a := 146) rfl tb_588 dX12_feed_74 ?_
            refine lv_aload_n hx hb dX12_feed_77 rfl (lv_at hl 2 rfl) ?_
            refine f_12_8 F w (a := 146) rfl tb_587 dX12_feed_78 ?_
            refine r_val (v := zI g146_8_18) (eg146_8_18) ?_
            refine lv_iload hx hb dX12_feed_81 (lv_at hl 0 rfl) ?_
            refine lv_bipush (v := zI 24) hx hb dX12_feed_83 (by decide) ?_
            refine lv_bipush (v := zI 8) hx hb dX12_feed_85 (by decide) ?_
            refine lv_iload hx hb dX12_feed_87 (lv_at hl 1 rfl) ?_
            refine lv_iconst (v := zI 4) hx hb dX12_feed_89 rfl ?_
            refine lv_irem hx hb dX12_feed_90 (nz_z (by omega) (by omega)) ?_
            obtain ⟨z20, bz20, x0z20, ez20⟩ := rem_ex v6_18 4 (by omega) (by omega)
            refine r_val ez20 ?_
            refine z_imul (z := (8 * z20)) hx hb dX12_feed_91 (by omega) ?_
            refine z_isub (z := (24 - (8 * z20))) hx hb dX12_feed_92 (by omega) ?_
            obtain ⟨z21, bz21, x0z21, ez21⟩ := shr_ex x (24 - (8 * z20)) (by omega)
            refine lv_ishr hx hb dX12_feed_93 ?_
            refine r_val ez21 ?_
            refine lv_sipush (v := zI 255) hx hb dX12_feed_94 (by decide) ?_
            obtain ⟨z22, bz22, x0z22, x1z22, ez22⟩ := and_ex z21 255 (by omega) (by omega)
            refine lv_iand hx hb dX12_feed_97 ?_
            refine r_val ez22 ?_
            refine g_iast F w (a := 150) rfl (j := (Int.toNat g146_8_18)) (ix_z (by omega) (by omega)) (by omega) dX12_feed_98 (fun H locs w => ?_)
            refine lv_aload_n hx hb dX12_feed_99 rfl (lv_at hl 2 rfl) ?_
            refine lv_dup hx hb dX12_feed_100 rfl ?_
            refine f_12_8 F w (a := 146) rfl tb_587 dX12_feed_101 ?_
            refine r_val (v := zI g146_8_18) ((st_ne (Or.inl (by decide))).trans eg146_8_18) ?_
            refine lv_iconst (v := zI 1) hx hb dX12_feed_104 rfl ?_
            refine z_iadd (z := (g146_8_18 + 1)) hx hb dX12_feed_105 (by omega) ?_
            refine u_12_8 F w (a := 146) rfl tb_587 dX12_feed_106 (fun H locs w => ?_)
            refine z_iinc (v := (v6_18 + 1)) (lv' := [(6, .int (zI (v6_18 + 1))), (7, .int (zI x)), (0, .ref (B + 146)), (1, .int (zI x)), (2, .int (zI x1)), (3, .int (zI x2)), (4, .int (zI x3)), (5, .int (zI x4))]) hx hb dX12_feed_109 hl (k := 1) rfl (by omega) (by decide) rfl (fun ls hl => ?_)
            refine lv_goto (tgt := 18) hx hb dX12_feed_112 (by decide) ?_
            exact ih18 (v6_18 + 1) (g146_8_18 + 1) (st (st NL18 150 (Int.toNat g146_8_18) (zI z22)) 146 8 (zI (g146_8_18 + 1))) (by omega) (by omega) (st_at) (by omega) (IvR.to (IvR.to hIL18 (a := 150) (k := (Int.toNat g146_8_18)) (x := z22) (show ivr 150 (Int.toNat g146_8_18) = (0, 255) from rfl) ⟨by omega, by omega⟩ ⟨by decide, by decide, by decide, fun q9 => absurd q9 (by decide)⟩) (a := 146) (k := 8) (x := (g146_8_18 + 1)) (show ivr 146 8 = (0, 300) from rfl) ⟨by omega, by omega⟩ ⟨by decide, by decide, by decide, fun q9 => absurd q9 (by decide)⟩) (Fr.to (Fr.to hFL18 (by first | decide | (dsimp only; first | done | decide | omega) | omega)) (by first | decide | (dsimp only; first | done | decide | omega) | omega)) (by omega) _ _ _ w (lv_sub hl [0, 2, 3, 4, 5, 6, 7] rfl)
    exact lp18 _ 0 z1 M (by omega) (by omega) (ez1) (by omega) hI hF (Nat.lt_succ_self _) _ _ _ w (lv_sub hl [0, 1, 2, 3, 4, 5, 6] rfl)
  · refine lv_iconst (v := zI (-1)) hx hb dX12_feed_13 rfl ?_
    rw [hQ]
    exact e_i F w hr hlocks ⟨_, rfl, ⟨by omega, by omega⟩, hI, hF⟩ dX12_feed_14
theorem dX12_word_0 : decode cX12_word 0 = .ok (.iconst 0, 1) := udX12_word_0
theorem dX12_word_1 : decode cX12_word 1 = .ok (.istore_n 1, 1) := udX12_word_1
theorem dX12_word_2 : decode cX12_word 2 = .ok (.iload_n 1, 1) := udX12_word_2
theorem dX12_word_3 : decode cX12_word 3 = .ok (.bipush 28, 2) := udX12_word_3
theorem dX12_word_5 : decode cX12_word 5 = .ok (.if_icmp .ge 16, 3) := udX12_word_5
theorem dX12_word_8 : decode cX12_word 8 = .ok (.aload_n 0, 1) := udX12_word_8
theorem dX12_word_9 : decode cX12_word 9 = .ok (.getfield 26, 3) := udX12_word_9
theorem dX12_word_12 : decode cX12_word 12 = .ok (.iload_n 1, 1) := udX12_word_12
theorem dX12_word_13 : decode cX12_word 13 = .ok (.iconst 0, 1) := udX12_word_13
theorem dX12_word_14 : decode cX12_word 14 = .ok (.iastore, 1) := udX12_word_14
theorem dX12_word_15 : decode cX12_word 15 = .ok (.iinc 1 1, 3) := udX12_word_15
theorem dX12_word_18 : decode cX12_word 18 = .ok (.goto (-16), 3) := udX12_word_18
theorem dX12_word_21 : decode cX12_word 21 = .ok (.aload_n 0, 1) := udX12_word_21
theorem dX12_word_22 : decode cX12_word 22 = .ok (.iconst 0, 1) := udX12_word_22
theorem dX12_word_23 : decode cX12_word 23 = .ok (.putfield 172, 3) := udX12_word_23
theorem dX12_word_26 : decode cX12_word 26 = .ok (.aload_n 0, 1) := udX12_word_26
theorem dX12_word_27 : decode cX12_word 27 = .ok (.invokevirtual 191, 3) := udX12_word_27
theorem tk_X12_readsTones : Cond.code yX12_readsTones cX12_readsTones 3 (some .boolean) ∈ TB := utk_X12_readsTones
theorem gc_X12_readsTones : GoodIn TB (cw yX12_readsTones cX12_readsTones 3 (some .boolean)) := goodIn_c2 tk_X12_readsTones
theorem tb_654 : Cond.methodLink "ToneLinesModel" 191 yX12_readsTones ∈ TB := utb_109
theorem tb_655 : Cond.instanceMethod yX12_readsTones ∈ TB := utb_110
theorem tb_656 : Cond.selects "ToneLinesModel" yX12_readsTones yX12_readsTones ∈ TB := utb_111
theorem gv_X12_191 : GoodIn TB (wsV RX12 191 RX12 yX12_readsTones (cw yX12_readsTones cX12_readsTones 3 (some .boolean))) := goodIn_4 tb_654 tb_655 tb_656 tb_38 gc_X12_readsTones
theorem hv_X12_readsTones : yX12_readsTones.cls = RX12 ∧ yX12_readsTones.cls ≠ "java/lang/invoke/MethodHandle" ∧ yX12_readsTones.cls ≠ "java/lang/invoke/VarHandle" ∧ (parseMethodDescriptor yX12_readsTones.desc).map (fun d => d.parameters.length) = some 0 := uhv_X12_readsTones
theorem dX12_word_30 : decode cX12_word 30 = .ok (.ifCond .eq 21, 3) := udX12_word_30
theorem dX12_word_51 : decode cX12_word 51 = .ok (.iconst 0, 1) := udX12_word_51
theorem dX12_word_52 : decode cX12_word 52 = .ok (.istore_n 1, 1) := udX12_word_52
theorem dX12_word_53 : decode cX12_word 53 = .ok (.aload_n 0, 1) := udX12_word_53
theorem dX12_word_54 : decode cX12_word 54 = .ok (.iconst 0, 1) := udX12_word_54
theorem dX12_word_55 : decode cX12_word 55 = .ok (.putfield 169, 3) := udX12_word_55
theorem dX12_word_58 : decode cX12_word 58 = .ok (.iload_n 1, 1) := udX12_word_58
theorem dX12_word_59 : decode cX12_word 59 = .ok (.ifCond .ne 11, 3) := udX12_word_59
theorem dX12_word_62 : decode cX12_word 62 = .ok (.bipush (-4), 2) := udX12_word_62
theorem dX12_word_64 : decode cX12_word 64 = .ok (.aload_n 0, 1) := udX12_word_64
theorem dX12_word_65 : decode cX12_word 65 = .ok (.getfield 172, 3) := udX12_word_65
theorem dX12_word_68 : decode cX12_word 68 = .ok (.isub, 1) := udX12_word_68
theorem dX12_word_69 : decode cX12_word 69 = .ok (.ireturn, 1) := udX12_word_69
theorem dX12_word_33 : decode cX12_word 33 = .ok (.aload_n 0, 1) := udX12_word_33
theorem dX12_word_34 : decode cX12_word 34 = .ok (.invokevirtual 195, 3) := udX12_word_34
theorem tk_X12_readsSyllables : Cond.code yX12_readsSyllables cX12_readsSyllables 4 (some .boolean) ∈ TB := utk_X12_readsSyllables
theorem gc_X12_readsSyllables : GoodIn TB (cw yX12_readsSyllables cX12_readsSyllables 4 (some .boolean)) := goodIn_c2 tk_X12_readsSyllables
theorem tb_657 : Cond.methodLink "ToneLinesModel" 195 yX12_readsSyllables ∈ TB := utb_112
theorem tb_658 : Cond.instanceMethod yX12_readsSyllables ∈ TB := utb_113
theorem tb_659 : Cond.selects "ToneLinesModel" yX12_readsSyllables yX12_readsSyllables ∈ TB := utb_114
theorem gv_X12_195 : GoodIn TB (wsV RX12 195 RX12 yX12_readsSyllables (cw yX12_readsSyllables cX12_readsSyllables 4 (some .boolean))) := goodIn_4 tb_657 tb_658 tb_659 tb_38 gc_X12_readsSyllables
theorem hv_X12_readsSyllables : yX12_readsSyllables.cls = RX12 ∧ yX12_readsSyllables.cls ≠ "java/lang/invoke/MethodHandle" ∧ yX12_readsSyllables.cls ≠ "java/lang/invoke/VarHandle" ∧ (parseMethodDescriptor yX12_readsSyllables.desc).map (fun d => d.parameters.length) = some 0 := uhv_X12_readsSyllables
theorem dX12_word_37 : decode cX12_word 37 = .ok (.ifCond .eq 14, 3) := udX12_word_37
theorem dX12_word_40 : decode cX12_word 40 = .ok (.aload_n 0, 1) := udX12_word_40
theorem dX12_word_41 : decode cX12_word 41 = .ok (.invokevirtual 198, 3) := udX12_word_41
theorem tk_X12_readsLines : Cond.code yX12_readsLines cX12_readsLines 3 (some .boolean) ∈ TB := utk_X12_readsLines
theorem gc_X12_readsLines : GoodIn TB (cw yX12_readsLines cX12_readsLines 3 (some .boolean)) := goodIn_c2 tk_X12_readsLines
theorem tb_660 : Cond.methodLink "ToneLinesModel" 198 yX12_readsLines ∈ TB := utb_115
theorem tb_661 : Cond.instanceMethod yX12_readsLines ∈ TB := utb_116
theorem tb_662 : Cond.selects "ToneLinesModel" yX12_readsLines yX12_readsLines ∈ TB := utb_117
theorem gv_X12_198 : GoodIn TB (wsV RX12 198 RX12 yX12_readsLines (cw yX12_readsLines cX12_readsLines 3 (some .boolean))) := goodIn_4 tb_660 tb_661 tb_662 tb_38 gc_X12_readsLines
theorem hv_X12_readsLines : yX12_readsLines.cls = RX12 ∧ yX12_readsLines.cls ≠ "java/lang/invoke/MethodHandle" ∧ yX12_readsLines.cls ≠ "java/lang/invoke/VarHandle" ∧ (parseMethodDescriptor yX12_readsLines.desc).map (fun d => d.parameters.length) = some 0 := uhv_X12_readsLines
theorem dX12_word_44 : decode cX12_word 44 = .ok (.ifCond .eq 7, 3) := udX12_word_44
theorem dX12_word_47 : decode cX12_word 47 = .ok (.iconst 1, 1) := udX12_word_47
theorem dX12_word_48 : decode cX12_word 48 = .ok (.goto 4, 3) := udX12_word_48
theorem dX12_word_70 : decode cX12_word 70 = .ok (.aload_n 0, 1) := udX12_word_70
theorem dX12_word_71 : decode cX12_word 71 = .ok (.getfield 13, 3) := udX12_word_71
theorem dX12_word_74 : decode cX12_word 74 = .ok (.aload_n 0, 1) := udX12_word_74
theorem dX12_word_75 : decode cX12_word 75 = .ok (.getfield 26, 3) := udX12_word_75
theorem dX12_word_78 : decode cX12_word 78 = .ok (.invokestatic 162, 3) := udX12_word_78
theorem dX12_word_81 : decode cX12_word 81 = .ok (.aload_n 0, 1) := udX12_word_81
theorem dX12_word_82 : decode cX12_word 82 = .ok (.iconst 0, 1) := udX12_word_82
theorem dX12_word_83 : decode cX12_word 83 = .ok (.putfield 201, 3) := udX12_word_83
theorem dX12_word_86 : decode cX12_word 86 = .ok (.aload_n 0, 1) := udX12_word_86
theorem dX12_word_87 : decode cX12_word 87 = .ok (.getfield 13, 3) := udX12_word_87
theorem dX12_word_90 : decode cX12_word 90 = .ok (.iconst 0, 1) := udX12_word_90
theorem dX12_word_91 : decode cX12_word 91 = .ok (.iaload, 1) := udX12_word_91
theorem dX12_word_92 : decode cX12_word 92 = .ok (.ireturn, 1) := udX12_word_92
set_option maxRecDepth 4000 in
theorem q_X12_word {l : Launch} {D : va_G} {B : Nat} {cy : Nat → ClassId} {M : Mem}  (hI : IvR M) : Ci l D B cy yX12_word cX12_word 2 (some .int) 4 88 [.ref (B + 146)] M (fun r M1 => ∃ z : Int, r = zI z ∧ ((-304) ≤ z ∧ z ≤ 12) ∧ IvR M1 ∧ Fr (fun b9 k9 => (b9 = 146 ∧ k9 = 11) ∨ (b9 = 146 ∧ k9 = 20) ∨ (b9 = 146 ∧ k9 = 8) ∨ (b9 = 146 ∧ k9 = 9) ∨ b9 = 147 ∨ b9 = 151) M1 M) := by
  refine s_anyQ (by decide) (Nat.le_of_ble_eq_true rfl) ?_
  intro p e s m args below meth c ls Q F hr hlocks hQ w hl
  have F : CallFix p m c cX12_word 2 s args TB RX12 := F
  have hx := F.1
  have hb := F.2.1
  have hl : lv_has ls 2 [(0, .ref (B + 146))] := hl
  have hF : Fr (fun b9 k9 => (b9 = 146 ∧ k9 = 11) ∨ (b9 = 146 ∧ k9 = 20) ∨ (b9 = 146 ∧ k9 = 8) ∨ (b9 = 146 ∧ k9 = 9) ∨ b9 = 147 ∨ b9 = 151) M M := Fr.rf
  refine lv_iconst (v := zI 0) hx hb dX12_word_0 rfl ?_
  refine lv_istore_n (lv' := [(1, .int (zI 0)), (0, .ref (B + 146))]) hx hb dX12_word_1 rfl hl (by decide) rfl (fun ls hl => ?_)
  have lp2 : ∀ (f : Nat) (v1_2 : Int)  (NL2 : Mem), (0 ≤ v1_2 ∧ v1_2 ≤ 63) → IvR NL2 → Fr (fun b9 k9 => (b9 = 146 ∧ k9 = 11) ∨ (b9 = 146 ∧ k9 = 20) ∨ (b9 = 146 ∧ k9 = 8) ∨ (b9 = 146 ∧ k9 = 9) ∨ b9 = 147 ∨ b9 = 151) NL2 M → (Int.toNat (28 - v1_2) < f) → ∀ (H : Heap) (locs : List Loc) (ls : Array Slot), Wd D B cy s s.heap NL2 H locs → lv_has ls 2 [(1, .int (zI v1_2)), (0, .ref (B + 146))] → W p l e (rmm 4 88) s m args below meth c H locs 0 0 Q (F0 m 2 ls []) := by
    intro f
    induction f with
    | zero => intros; omega
    | succ f ih2 =>
      intro v1_2  NL2 iv1_2 hIL2 hFL2 hf2 H locs ls w hl
      refine lv_iload_n hx hb dX12_word_2 rfl (lv_at hl 0 rfl) ?_
      refine lv_bipush (v := zI 28) hx hb dX12_word_3 (by decide) ?_
      refine z_icmp_ge (tgt := 21) hx hb (by omega) (by omega) dX12_word_5 (by decide) (fun c1 => ?_) (fun c1 => ?_)
      · refine lv_aload_n hx hb dX12_word_21 rfl (lv_at hl 1 rfl) ?_
        refine lv_iconst (v := zI 0) hx hb dX12_word_22 rfl ?_
        refine u_12_9 F w (a := 146) rfl tb_586 dX12_word_23 (fun H locs w => ?_)
        refine lv_aload_n hx hb dX12_word_26 rfl (lv_at hl 1 rfl) ?_
        refine k_Vi F w (As := []) (rest := []) (a := 146) (kd_lt (a := 146) (show kd 146 = (12, 0, 0) from rfl) (by decide)) (sh_12 rfl _ _) rfl (q_X12_readsTones   (IvR.to hIL2 (a := 146) (k := 9) (x := 0) (show ivr 146 9 = (0, 300) from rfl) ⟨by omega, by omega⟩ ⟨by decide, by decide, by decide, fun q9 => absurd q9 (by decide)⟩)) gv_X12_191 hv_X12_readsTones ⟨(Nat.le_of_ble_eq_true rfl), (Nat.le_of_ble_eq_true rfl)⟩ hl.1 rfl (Nat.le_of_ble_eq_true rfl) ⟨Nat.zero_le _, Nat.zero_le _⟩ dX12_word_27 (fun r2 N3 H locs hp w => ?_)
        obtain ⟨z4, rfl, bz4, hIN3, hFN3⟩ := hp
        have hGN3 := Fr.tr (Fr.to hFL2 (by first | decide | (dsimp only; first | done | decide | omega) | omega)) hFN3 (S := (fun b9 k9 => (b9 = 146 ∧ k9 = 11) ∨ (b9 = 146 ∧ k9 = 20) ∨ (b9 = 146 ∧ k9 = 8) ∨ (b9 = 146 ∧ k9 = 9) ∨ b9 = 147 ∨ b9 = 151)) (fun b k h => by (try dsimp only at h ⊢); rcases h with ⟨rfl, rfl⟩ | rfl <;> first | decide | omega)
        refine z_if_eq (tgt := 51) hx hb (by omega) dX12_word_30 (by decide) (fun c5 => ?_) (fun c5 => ?_)
        · refine lv_iconst (v := zI 0) hx hb dX12_word_51 rfl ?_
          refine lv_istore_n (lv' := [(1, .int (zI 0)), (0, .ref (B + 146))]) hx hb dX12_word_52 rfl hl (by decide) rfl (fun ls hl => ?_)
          refine lv_aload_n hx hb dX12_word_53 rfl (lv_at hl 1 rfl) ?_
          refine lv_iconst (v := zI 0) hx hb dX12_word_54 rfl ?_
          refine u_12_8 F w (a := 146) rfl tb_587 dX12_word_55 (fun H locs w => ?_)
          refine lv_iload_n hx hb dX12_word_58 rfl (lv_at hl 0 rfl) ?_
          refine z_if_ne (tgt := 70) hx hb (by omega) dX12_word_59 (by decide) (fun c6 => False.elim (by omega)) (fun c6 => ?_)
          refine lv_bipush (v := zI (-4)) hx hb dX12_word_62 (by decide) ?_
          refine lv_aload_n hx hb dX12_word_64 rfl (lv_at hl 1 rfl) ?_
          refine f_12_9 F w (a := 146) rfl tb_586 dX12_word_65 ?_
          obtain ⟨z7, bz7, ez7⟩ := IvR.ld (k := 9) (IvR.to hIN3 (a := 146) (k := 8) (x := 0) (show ivr 146 8 = (0, 300) from rfl) ⟨by omega, by omega⟩ ⟨by decide, by decide, by decide, fun q9 => absurd q9 (by decide)⟩) (show ivr 146 9 = (0, 300) from rfl) (show 146 ≤ 146 ∧ 146 < 159 by decide)
          refine r_val ez7 ?_
          refine z_isub (z := ((-4) - z7)) hx hb dX12_word_68 (by omega) ?_
          rw [hQ]
          exact e_i F w hr hlocks ⟨_, rfl, ⟨by omega, by omega⟩, (IvR.to hIN3 (a := 146) (k := 8) (x := 0) (show ivr 146 8 = (0, 300) from rfl) ⟨by omega, by omega⟩ ⟨by decide, by decide, by decide, fun q9 => absurd q9 (by decide)⟩), (Fr.to hGN3 (by first | decide | (dsimp only; first | done | decide | omega) | omega))⟩ dX12_word_69
        · refine lv_aload_n hx hb dX12_word_33 rfl (lv_at hl 1 rfl) ?_
          refine k_Vi F w (As := []) (rest := []) (a := 146) (kd_lt (a := 146) (show kd 146 = (12, 0, 0) from rfl) (by decide)) (sh_12 rfl _ _) rfl (q_X12_readsSyllables   hIN3) gv_X12_195 hv_X12_readsSyllables ⟨(Nat.le_of_ble_eq_true rfl), (Nat.le_of_ble_eq_true rfl)⟩ hl.1 rfl (Nat.le_of_ble_eq_true rfl) ⟨Nat.zero_le _, Nat.zero_le _⟩ dX12_word_34 (fun r8 N9 H locs hp w => ?_)
          obtain ⟨z10, rfl, bz10, hIN9, hFN9⟩ := hp
          have hGN9 := Fr.tr hGN3 hFN9 (S := (fun b9 k9 => (b9 = 146 ∧ k9 = 11) ∨ (b9 = 146 ∧ k9 = 20) ∨ (b9 = 146 ∧ k9 = 8) ∨ (b9 = 146 ∧ k9 = 9) ∨ b9 = 147 ∨ b9 = 151)) (fun b k h => by (try dsimp only at h ⊢); rcases h with ⟨rfl, rfl⟩ | ⟨rfl, q1, q2⟩ | ⟨rfl, q1, q2⟩ | ⟨rfl, q1, q2⟩ <;> first | decide | omega)
          refine z_if_eq (tgt := 51) hx hb (by omega) dX12_word_37 (by decide) (fun c11 => ?_) (fun c11 => ?_)
          · refine lv_iconst (v := zI 0) hx hb dX12_word_51 rfl ?_
            refine lv_istore_n (lv' := [(1, .int (zI 0)), (0, .ref (B + 146))]) hx hb dX12_word_52 rfl hl (by decide) rfl (fun ls hl => ?_)
            refine lv_aload_n hx hb dX12_word_53 rfl (lv_at hl 1 rfl) ?_
            refine lv_iconst (v := zI 0) hx hb dX12_word_54 rfl ?_
            refine u_12_8 F w (a := 146) rfl tb_587 dX12_word_55 (fun H locs w => ?_)
            refine lv_iload_n hx hb dX12_word_58 rfl (lv_at hl 0 rfl) ?_
            refine z_if_ne (tgt := 70) hx hb (by omega) dX12_word_59 (by decide) (fun c12 => False.elim (by omega)) (fun c12 => ?_)
            refine lv_bipush (v := zI (-4)) hx hb dX12_word_62 (by decide) ?_
            refine lv_aload_n hx hb dX12_word_64 rfl (lv_at hl 1 rfl) ?_
            refine f_12_9 F w (a := 146) rfl tb_586 dX12_word_65 ?_
            obtain ⟨z13, bz13, ez13⟩ := IvR.ld (k := 9) (IvR.to hIN9 (a := 146) (k := 8) (x := 0) (show ivr 146 8 = (0, 300) from rfl) ⟨by omega, by omega⟩ ⟨by decide, by decide, by decide, fun q9 => absurd q9 (by decide)⟩) (show ivr 146 9 = (0, 300) from rfl) (show 146 ≤ 146 ∧ 146 < 159 by decide)
            refine r_val ez13 ?_
            refine z_isub (z := ((-4) - z13)) hx hb dX12_word_68 (by omega) ?_
            rw [hQ]
            exact e_i F w hr hlocks ⟨_, rfl, ⟨by omega, by omega⟩, (IvR.to hIN9 (a := 146) (k := 8) (x := 0) (show ivr 146 8 = (0, 300) from rfl) ⟨by omega, by omega⟩ ⟨by decide, by decide, by decide, fun q9 => absurd q9 (by decide)⟩), (Fr.to hGN9 (by first | decide | (dsimp only; first | done | decide | omega) | omega))⟩ dX12_word_69
          · refine lv_aload_n hx hb dX12_word_40 rfl (lv_at hl 1 rfl) ?_
            refine k_Vi F w (As := []) (rest := []) (a := 146) (kd_lt (a := 146) (show kd 146 = (12, 0, 0) from rfl) (by decide)) (sh_12 rfl _ _) rfl (q_X12_readsLines   hIN9) gv_X12_198 hv_X12_readsLines ⟨(Nat.le_of_ble_eq_true rfl), (Nat.le_of_ble_eq_true rfl)⟩ hl.1 rfl (Nat.le_of_ble_eq_true rfl) ⟨Nat.zero_le _, Nat.zero_le _⟩ dX12_word_41 (fun r14 N15 H locs hp w => ?_)
            obtain ⟨z16, rfl, bz16, hIN15, hFN15⟩ := hp
            have hGN15 := Fr.tr hGN9 hFN15 (S := (fun b9 k9 => (b9 = 146 ∧ k9 = 11) ∨ (b9 = 146 ∧ k9 = 20) ∨ (b9 = 146 ∧ k9 = 8) ∨ (b9 = 146 ∧ k9 = 9) ∨ b9 = 147 ∨ b9 = 151)) (fun b k h => by (try dsimp only at h ⊢); rcases h with ⟨rfl, rfl⟩ | ⟨rfl, rfl⟩ | ⟨rfl, q1, q2⟩ <;> first | decide | omega)
            refine z_if_eq (tgt := 51) hx hb (by omega) dX12_word_44 (by decide) (fun c17 => ?_) (fun c17 => ?_)
            · refine lv_iconst (v := zI 0) hx hb dX12_word_51 rfl ?_
              refine lv_istore_n (lv' := [(1, .int (zI 0)), (0, .ref (B + 146))]) hx hb dX12_word_52 rfl hl (by decide) rfl (fun ls hl => ?_)
              refine lv_aload_n hx hb dX12_word_53 rfl (lv_at hl 1 rfl) ?_
              refine lv_iconst (v := zI 0) hx hb dX12_word_54 rfl ?_
              refine u_12_8 F w (a := 146) rfl tb_587 dX12_word_55 (fun H locs w => ?_)
              refine lv_iload_n hx hb dX12_word_58 rfl (lv_at hl 0 rfl) ?_
              refine z_if_ne (tgt := 70) hx hb (by omega) dX12_word_59 (by decide) (fun c18 => False.elim (by omega)) (fun c18 => ?_)
              refine lv_bipush (v := zI (-4)) hx hb dX12_word_62 (by decide) ?_
              refine lv_aload_n hx hb dX12_word_64 rfl (lv_at hl 1 rfl) ?_
              refine f_12_9 F w (a := 146) rfl tb_586 dX12_word_65 ?_
              obtain ⟨z19, bz19, ez19⟩ := IvR.ld (k := 9) (IvR.to hIN15 (a := 146) (k := 8) (x := 0) (show ivr 146 8 = (0, 300) from rfl) ⟨by omega, by omega⟩ ⟨by decide, by decide, by decide, fun q9 => absurd q9 (by decide)⟩) (show ivr 146 9 = (0, 300) from rfl) (show 146 ≤ 146 ∧ 146 < 159 by decide)
              refine r_val ez19 ?_
              refine z_isub (z := ((-4) - z19)) hx hb dX12_word_68 (by omega) ?_
              rw [hQ]
              exact e_i F w hr hlocks ⟨_, rfl, ⟨by omega, by omega⟩, (IvR.to hIN15 (a := 146) (k := 8) (x := 0) (show ivr 146 8 = (0, 300) from rfl) ⟨by omega, by omega⟩ ⟨by decide, by decide, by decide, fun q9 => absurd q9 (by decide)⟩), (Fr.to hGN15 (by first | decide | (dsimp only; first | done | decide | omega) | omega))⟩ dX12_word_69
            · refine lv_iconst (v := zI 1) hx hb dX12_word_47 rfl ?_
              refine lv_goto (tgt := 52) hx hb dX12_word_48 (by decide) ?_
              refine lv_istore_n (lv' := [(1, .int (zI 1)), (0, .ref (B + 146))]) hx hb dX12_word_52 rfl hl (by decide) rfl (fun ls hl => ?_)
              refine lv_aload_n hx hb dX12_word_53 rfl (lv_at hl 1 rfl) ?_
              refine lv_iconst (v := zI 0) hx hb dX12_word_54 rfl ?_
              refine u_12_8 F w (a := 146) rfl tb_587 dX12_word_55 (fun H locs w => ?_)
              refine lv_iload_n hx hb dX12_word_58 rfl (lv_at hl 0 rfl) ?_
              refine z_if_ne (tgt := 70) hx hb (by omega) dX12_word_59 (by decide) (fun c20 => ?_) (fun c20 => False.elim (by omega))
              refine lv_aload_n hx hb dX12_word_70 rfl (lv_at hl 1 rfl) ?_
              refine f_12_1 F w (a := 146) rfl tb_580 dX12_word_71 ?_
              refine lv_aload_n hx hb dX12_word_74 rfl (lv_at hl 1 rfl) ?_
              refine f_12_10 F w (a := 146) rfl tb_595 dX12_word_75 ?_
              obtain ⟨z21, bz21, ez21⟩ := IvR.ld (k := 0) hIN15 (show ivr 151 0 = (0, 12) from rfl) (show 146 ≤ 151 ∧ 151 < 159 by decide)
              refine k_Sv F w (As := [.ref (B + 147), .ref (B + 151)]) (rest := []) (q_copy_147_151 (nn := z21) ((st_ne (Or.inl (by decide))).trans ez21) ⟨by omega, by omega⟩  (IvR.to hIN15 (a := 146) (k := 8) (x := 0) (show ivr 146 8 = (0, 300) from rfl) ⟨by omega, by omega⟩ ⟨by decide, by decide, by decide, fun q9 => absurd q9 (by decide)⟩)) gs_X12_162 hs_X12_copy ⟨(Nat.le_of_ble_eq_true rfl), (Nat.le_of_ble_eq_true rfl)⟩ hl.1 rfl (Nat.le_of_ble_eq_true rfl) ⟨Nat.zero_le _, Nat.zero_le _⟩ dX12_word_78 (fun N23 H locs hp w => ?_)
              obtain ⟨yN23_147_0, hIN23, hFN23⟩ := hp
              have hGN23 := Fr.tr (Fr.to hGN15 (by first | decide | (dsimp only; first | done | decide | omega) | omega)) hFN23 (S := (fun b9 k9 => (b9 = 146 ∧ k9 = 11) ∨ (b9 = 146 ∧ k9 = 20) ∨ (b9 = 146 ∧ k9 = 8) ∨ (b9 = 146 ∧ k9 = 9) ∨ b9 = 147 ∨ b9 = 151)) (fun b k h => by (try dsimp only at h ⊢); rcases h with rfl <;> first | decide | omega)
              have kn25 : N23.1 151 0 = zI z21 := (hFN23 151 0 (by first | decide | (dsimp only; first | done | decide | omega) | omega)).trans ((st_ne (Or.inl (by decide))).trans ez21)
              have kn26 : N23.1 146 8 = zI 0 := (hFN23 146 8 (by first | decide | (dsimp only; first | done | decide | omega) | omega)).trans (st_at)
              refine lv_aload_n hx hb dX12_word_81 rfl (lv_at hl 1 rfl) ?_
              refine lv_iconst (v := zI 0) hx hb dX12_word_82 rfl ?_
              refine u_12_20 F w (a := 146) rfl tb_650 dX12_word_83 (fun H locs w => ?_)
              refine lv_aload_n hx hb dX12_word_86 rfl (lv_at hl 1 rfl) ?_
              refine f_12_1 F w (a := 146) rfl tb_580 dX12_word_87 ?_
              refine lv_iconst (v := zI 0) hx hb dX12_word_90 rfl ?_
              refine g_iald F w (a := 147) rfl (j := 0) ⟨by decide, by decide⟩ (by omega) dX12_word_91 ?_
              refine r_val (v := zI z21) ((st_ne (Or.inl (by decide))).trans yN23_147_0) ?_
              rw [hQ]
              exact e_i F w hr hlocks ⟨_, rfl, ⟨by omega, by omega⟩, (IvR.to hIN23 (a := 146) (k := 20) (x := 0) (show ivr 146 20 = (0, 12) from rfl) ⟨by omega, by omega⟩ ⟨by decide, by decide, by decide, fun q9 => absurd q9 (by decide)⟩), (Fr.to hGN23 (by first | decide | (dsimp only; first | done | decide | omega) | omega))⟩ dX12_word_92
      · refine lv_aload_n hx hb dX12_word_8 rfl (lv_at hl 1 rfl) ?_
        refine f_12_10 F w (a := 146) rfl tb_595 dX12_word_9 ?_
        refine lv_iload_n hx hb dX12_word_12 rfl (lv_at hl 0 rfl) ?_
        refine lv_iconst (v := zI 0) hx hb dX12_word_13 rfl ?_
        refine g_iast F w (a := 151) rfl (j := (Int.toNat v1_2)) (ix_z (by omega) (by omega)) (by omega) dX12_word_14 (fun H locs w => ?_)
        refine z_iinc (v := (v1_2 + 1)) (lv' := [(1, .int (zI (v1_2 + 1))), (0, .ref (B + 146))]) hx hb dX12_word_15 hl (k := 0) rfl (by omega) (by decide) rfl (fun ls hl => ?_)
        refine lv_goto (tgt := 2) hx hb dX12_word_18 (by decide) ?_
        exact ih2 (v1_2 + 1) (st NL2 151 (Int.toNat v1_2) (zI 0)) (by omega)    (IvR.to0 hIL2 (a := 151) (k := (Int.toNat v1_2)) (by omega)) (Fr.to hFL2 (by first | decide | (dsimp only; first | done | decide | omega) | omega)) (by omega) _ _ _ w (lv_sub hl [0, 1] rfl)
  exact lp2 _ 0 M (by omega) hI hF (Nat.lt_succ_self _) _ _ _ w (lv_sub hl [0, 1] rfl)
