theorem dX12_rules_0 : decode cX12_rules 0 = .ok (.aload_n 0, 1) := rdX12_rules_0
theorem dX12_rules_1 : decode cX12_rules 1 = .ok (.iconst 0, 1) := rdX12_rules_1
theorem dX12_rules_2 : decode cX12_rules 2 = .ok (.putfield 172, 3) := rdX12_rules_2
theorem dX12_rules_5 : decode cX12_rules 5 = .ok (.aload_n 0, 1) := rdX12_rules_5
theorem dX12_rules_6 : decode cX12_rules 6 = .ok (.iconst 3, 1) := rdX12_rules_6
theorem dX12_rules_7 : decode cX12_rules 7 = .ok (.putfield 204, 3) := rdX12_rules_7
theorem dX12_rules_10 : decode cX12_rules 10 = .ok (.aload_n 0, 1) := rdX12_rules_10
theorem dX12_rules_11 : decode cX12_rules 11 = .ok (.iconst 0, 1) := rdX12_rules_11
theorem dX12_rules_12 : decode cX12_rules 12 = .ok (.putfield 217, 3) := rdX12_rules_12
theorem dX12_rules_15 : decode cX12_rules 15 = .ok (.iconst 0, 1) := rdX12_rules_15
theorem dX12_rules_16 : decode cX12_rules 16 = .ok (.istore_n 1, 1) := rdX12_rules_16
theorem dX12_rules_17 : decode cX12_rules 17 = .ok (.aload_n 0, 1) := rdX12_rules_17
theorem dX12_rules_18 : decode cX12_rules 18 = .ok (.invokevirtual 221, 3) := rdX12_rules_18
theorem dX12_rules_21 : decode cX12_rules 21 = .ok (.aload_n 0, 1) := rdX12_rules_21
theorem dX12_rules_22 : decode cX12_rules 22 = .ok (.getfield 217, 3) := rdX12_rules_22
theorem dX12_rules_25 : decode cX12_rules 25 = .ok (.ifCond .ne 72, 3) := rdX12_rules_25
theorem dX12_rules_97 : decode cX12_rules 97 = .ok (.aload_n 0, 1) := rdX12_rules_97
theorem dX12_rules_98 : decode cX12_rules 98 = .ok (.iconst 0, 1) := rdX12_rules_98
theorem dX12_rules_99 : decode cX12_rules 99 = .ok (.putfield 169, 3) := rdX12_rules_99
theorem dX12_rules_102 : decode cX12_rules 102 = .ok (.aload_n 0, 1) := rdX12_rules_102
theorem dX12_rules_103 : decode cX12_rules 103 = .ok (.getfield 217, 3) := rdX12_rules_103
theorem dX12_rules_106 : decode cX12_rules 106 = .ok (.ifCond .eq 11, 3) := rdX12_rules_106
theorem dX12_rules_109 : decode cX12_rules 109 = .ok (.bipush (-4), 2) := rdX12_rules_109
theorem dX12_rules_111 : decode cX12_rules 111 = .ok (.aload_n 0, 1) := rdX12_rules_111
theorem dX12_rules_112 : decode cX12_rules 112 = .ok (.getfield 207, 3) := rdX12_rules_112
theorem dX12_rules_115 : decode cX12_rules 115 = .ok (.isub, 1) := rdX12_rules_115
theorem dX12_rules_116 : decode cX12_rules 116 = .ok (.ireturn, 1) := rdX12_rules_116
theorem dX12_rules_28 : decode cX12_rules 28 = .ok (.aload_n 0, 1) := rdX12_rules_28
theorem dX12_rules_29 : decode cX12_rules 29 = .ok (.getfield 204, 3) := rdX12_rules_29
theorem dX12_rules_32 : decode cX12_rules 32 = .ok (.ifCond .eq 65, 3) := rdX12_rules_32
theorem dX12_rules_117 : decode cX12_rules 117 = .ok (.iconst 0, 1) := rdX12_rules_117
theorem dX12_rules_118 : decode cX12_rules 118 = .ok (.istore_n 2, 1) := rdX12_rules_118
theorem dX12_rules_119 : decode cX12_rules 119 = .ok (.iload_n 2, 1) := rdX12_rules_119
theorem dX12_rules_120 : decode cX12_rules 120 = .ok (.bipush 8, 2) := rdX12_rules_120
theorem dX12_rules_122 : decode cX12_rules 122 = .ok (.iload_n 1, 1) := rdX12_rules_122
theorem dX12_rules_123 : decode cX12_rules 123 = .ok (.imul, 1) := rdX12_rules_123
theorem dX12_rules_124 : decode cX12_rules 124 = .ok (.if_icmp .ge 21, 3) := rdX12_rules_124
theorem dX12_rules_145 : decode cX12_rules 145 = .ok (.aload_n 0, 1) := rdX12_rules_145
theorem dX12_rules_146 : decode cX12_rules 146 = .ok (.iload_n 1, 1) := rdX12_rules_146
theorem dX12_rules_147 : decode cX12_rules 147 = .ok (.putfield 239, 3) := rdX12_rules_147
theorem dX12_rules_150 : decode cX12_rules 150 = .ok (.iload_n 1, 1) := rdX12_rules_150
theorem dX12_rules_151 : decode cX12_rules 151 = .ok (.ireturn, 1) := rdX12_rules_151
theorem dX12_rules_35 : decode cX12_rules 35 = .ok (.iload_n 1, 1) := rdX12_rules_35
theorem dX12_rules_36 : decode cX12_rules 36 = .ok (.bipush 8, 2) := rdX12_rules_36
theorem dX12_rules_38 : decode cX12_rules 38 = .ok (.if_icmp .ne 11, 3) := rdX12_rules_38
theorem dX12_rules_49 : decode cX12_rules 49 = .ok (.aload_n 0, 1) := rdX12_rules_49
theorem dX12_rules_50 : decode cX12_rules 50 = .ok (.invokevirtual 236, 3) := rdX12_rules_50
theorem tk_X12_readsRule : Cond.code yX12_readsRule cX12_readsRule 2 none ∈ TB := rtk_X12_readsRule
theorem gc_X12_readsRule : GoodIn TB (cw yX12_readsRule cX12_readsRule 2 none) := goodIn_c2 tk_X12_readsRule
theorem tb_718 : Cond.methodLink "ToneLinesModel" 236 yX12_readsRule ∈ TB := rtb_160
theorem tb_719 : Cond.instanceMethod yX12_readsRule ∈ TB := rtb_161
theorem tb_720 : Cond.selects "ToneLinesModel" yX12_readsRule yX12_readsRule ∈ TB := rtb_162
theorem gv_X12_236 : GoodIn TB (wsV RX12 236 RX12 yX12_readsRule (cw yX12_readsRule cX12_readsRule 2 none)) := goodIn_4 tb_718 tb_719 tb_720 tb_38 gc_X12_readsRule
theorem hv_X12_readsRule : yX12_readsRule.cls = RX12 ∧ yX12_readsRule.cls ≠ "java/lang/invoke/MethodHandle" ∧ yX12_readsRule.cls ≠ "java/lang/invoke/VarHandle" ∧ (parseMethodDescriptor yX12_readsRule.desc).map (fun d => d.parameters.length) = some 0 := rhv_X12_readsRule
theorem dX12_rules_53 : decode cX12_rules 53 = .ok (.iconst 0, 1) := rdX12_rules_53
theorem dX12_rules_54 : decode cX12_rules 54 = .ok (.istore_n 2, 1) := rdX12_rules_54
theorem dX12_rules_55 : decode cX12_rules 55 = .ok (.iload_n 2, 1) := rdX12_rules_55
theorem dX12_rules_56 : decode cX12_rules 56 = .ok (.bipush 8, 2) := rdX12_rules_56
theorem dX12_rules_58 : decode cX12_rules 58 = .ok (.if_icmp .ge 33, 3) := rdX12_rules_58
theorem dX12_rules_61 : decode cX12_rules 61 = .ok (.aload_n 0, 1) := rdX12_rules_61
theorem dX12_rules_62 : decode cX12_rules 62 = .ok (.getfield 217, 3) := rdX12_rules_62
theorem dX12_rules_65 : decode cX12_rules 65 = .ok (.ifCond .ne 26, 3) := rdX12_rules_65
theorem dX12_rules_91 : decode cX12_rules 91 = .ok (.iinc 1 1, 3) := rdX12_rules_91
theorem dX12_rules_94 : decode cX12_rules 94 = .ok (.goto (-73), 3) := rdX12_rules_94
theorem dX12_rules_68 : decode cX12_rules 68 = .ok (.aload_n 0, 1) := rdX12_rules_68
theorem dX12_rules_69 : decode cX12_rules 69 = .ok (.getfield 36, 3) := rdX12_rules_69
theorem tb_721 : Cond.fieldLink "ToneLinesModel" 36 "ToneLinesModel" "ruleRead" "[I" ∈ TB := rtb_163
theorem dX12_rules_72 : decode cX12_rules 72 = .ok (.bipush 8, 2) := rdX12_rules_72
theorem dX12_rules_74 : decode cX12_rules 74 = .ok (.iload_n 1, 1) := rdX12_rules_74
theorem dX12_rules_75 : decode cX12_rules 75 = .ok (.imul, 1) := rdX12_rules_75
theorem dX12_rules_76 : decode cX12_rules 76 = .ok (.iload_n 2, 1) := rdX12_rules_76
theorem dX12_rules_77 : decode cX12_rules 77 = .ok (.iadd, 1) := rdX12_rules_77
theorem dX12_rules_78 : decode cX12_rules 78 = .ok (.aload_n 0, 1) := rdX12_rules_78
theorem dX12_rules_79 : decode cX12_rules 79 = .ok (.getfield 33, 3) := rdX12_rules_79
theorem dX12_rules_82 : decode cX12_rules 82 = .ok (.iload_n 2, 1) := rdX12_rules_82
theorem dX12_rules_83 : decode cX12_rules 83 = .ok (.iaload, 1) := rdX12_rules_83
theorem dX12_rules_84 : decode cX12_rules 84 = .ok (.iastore, 1) := rdX12_rules_84
theorem dX12_rules_85 : decode cX12_rules 85 = .ok (.iinc 2 1, 3) := rdX12_rules_85
theorem dX12_rules_88 : decode cX12_rules 88 = .ok (.goto (-33), 3) := rdX12_rules_88
theorem dX12_rules_127 : decode cX12_rules 127 = .ok (.aload_n 0, 1) := rdX12_rules_127
theorem dX12_rules_128 : decode cX12_rules 128 = .ok (.getfield 20, 3) := rdX12_rules_128
theorem dX12_rules_131 : decode cX12_rules 131 = .ok (.iload_n 2, 1) := rdX12_rules_131
theorem dX12_rules_132 : decode cX12_rules 132 = .ok (.aload_n 0, 1) := rdX12_rules_132
theorem dX12_rules_133 : decode cX12_rules 133 = .ok (.getfield 36, 3) := rdX12_rules_133
theorem dX12_rules_136 : decode cX12_rules 136 = .ok (.iload_n 2, 1) := rdX12_rules_136
theorem dX12_rules_137 : decode cX12_rules 137 = .ok (.iaload, 1) := rdX12_rules_137
theorem dX12_rules_138 : decode cX12_rules 138 = .ok (.iastore, 1) := rdX12_rules_138
theorem dX12_rules_139 : decode cX12_rules 139 = .ok (.iinc 2 1, 3) := rdX12_rules_139
theorem dX12_rules_142 : decode cX12_rules 142 = .ok (.goto (-23), 3) := rdX12_rules_142
theorem dX12_rules_41 : decode cX12_rules 41 = .ok (.aload_n 0, 1) := rdX12_rules_41
theorem dX12_rules_42 : decode cX12_rules 42 = .ok (.iconst 1, 1) := rdX12_rules_42
theorem dX12_rules_43 : decode cX12_rules 43 = .ok (.putfield 217, 3) := rdX12_rules_43
theorem dX12_rules_46 : decode cX12_rules 46 = .ok (.goto (-25), 3) := rdX12_rules_46
set_option maxRecDepth 4000 in
theorem q_X12_rules {l : Launch} {D : va_G} {B : Nat} {cy : Nat → ClassId} {M : Mem}  (hI : IvR M) : Ci l D B cy yX12_rules cX12_rules 3 (some .int) 6 130 [.ref (B + 146)] M (fun r M1 => ∃ z : Int, r = zI z ∧ ((-2147483648) ≤ z ∧ z ≤ 2147483647) ∧ IvR M1 ∧ Fr (fun b9 k9 => (b9 = 146 ∧ k9 = 11) ∨ (b9 = 146 ∧ k9 = 13) ∨ (b9 = 146 ∧ k9 = 14) ∨ (b9 = 146 ∧ k9 = 15) ∨ (b9 = 146 ∧ k9 = 16) ∨ (b9 = 146 ∧ k9 = 5) ∨ (b9 = 146 ∧ k9 = 8) ∨ (b9 = 146 ∧ k9 = 9) ∨ b9 = 149 ∨ b9 = 153 ∨ b9 = 154) M1 M) := by
  refine s_anyQ (by decide) (Nat.le_of_ble_eq_true rfl) ?_
  intro p e s m args below meth c ls Q F hr hlocks hQ w hl
  have F : CallFix p m c cX12_rules 3 s args TB RX12 := F
  have hx := F.1
  have hb := F.2.1
  have hl : lv_has ls 3 [(0, .ref (B + 146))] := hl
  have hF : Fr (fun b9 k9 => (b9 = 146 ∧ k9 = 11) ∨ (b9 = 146 ∧ k9 = 13) ∨ (b9 = 146 ∧ k9 = 14) ∨ (b9 = 146 ∧ k9 = 15) ∨ (b9 = 146 ∧ k9 = 16) ∨ (b9 = 146 ∧ k9 = 5) ∨ (b9 = 146 ∧ k9 = 8) ∨ (b9 = 146 ∧ k9 = 9) ∨ b9 = 149 ∨ b9 = 153 ∨ b9 = 154) M M := Fr.rf
  refine lv_aload_n hx hb dX12_rules_0 rfl (lv_at hl 0 rfl) ?_
  refine lv_iconst (v := zI 0) hx hb dX12_rules_1 rfl ?_
  refine u_12_9 F w (a := 146) rfl tb_586 dX12_rules_2 (fun H locs w => ?_)
  refine lv_aload_n hx hb dX12_rules_5 rfl (lv_at hl 0 rfl) ?_
  refine lv_iconst (v := zI 3) hx hb dX12_rules_6 rfl ?_
  refine u_12_13 F w (a := 146) rfl tb_602 dX12_rules_7 (fun H locs w => ?_)
  refine lv_aload_n hx hb dX12_rules_10 rfl (lv_at hl 0 rfl) ?_
  refine lv_iconst (v := zI 0) hx hb dX12_rules_11 rfl ?_
  refine u_12_16 F w (a := 146) rfl (nar_z (by omega)) (fit_z (by omega)) tb_669 dX12_rules_12 (fun H locs w => ?_)
  refine lv_iconst (v := zI 0) hx hb dX12_rules_15 rfl ?_
  refine lv_istore_n (lv' := [(1, .int (zI 0)), (0, .ref (B + 146))]) hx hb dX12_rules_16 rfl hl (by decide) rfl (fun ls hl => ?_)
  refine lv_aload_n hx hb dX12_rules_17 rfl (lv_at hl 1 rfl) ?_
  refine k_Vv F w (As := []) (rest := []) (a := 146) (kd_lt (a := 146) (show kd 146 = (12, 0, 0) from rfl) (by decide)) (sh_12 rfl _ _) rfl (q_X12_goesOn   (IvR.to (IvR.to (IvR.to hI (a := 146) (k := 9) (x := 0) (show ivr 146 9 = (0, 300) from rfl) ⟨by omega, by omega⟩ ⟨by decide, by decide, by decide, fun q9 => absurd q9 (by decide)⟩) (a := 146) (k := 13) (x := 3) (show ivr 146 13 = ((-2147483648), 2147483647) from rfl) ⟨by omega, by omega⟩ ⟨by decide, by decide, by decide, fun q9 => absurd q9 (by decide)⟩) (a := 146) (k := 16) (x := 0) (show ivr 146 16 = (0, 1) from rfl) ⟨by omega, by omega⟩ ⟨by decide, by decide, by decide, fun q9 => absurd q9 (by decide)⟩)) gv_X12_221 hv_X12_goesOn ⟨(Nat.le_of_ble_eq_true rfl), (Nat.le_of_ble_eq_true rfl)⟩ hl.1 rfl (Nat.le_of_ble_eq_true rfl) ⟨Nat.zero_le _, Nat.zero_le _⟩ dX12_rules_18 (fun N2 H locs hp w => ?_)
  obtain ⟨⟨nz30, nz31, enz30, enz31, xz3⟩, hIN2, hFN2⟩ := hp
  have hGN2 := Fr.tr (Fr.to (Fr.to (Fr.to hF (by first | decide | (dsimp only; first | done | decide | omega) | omega)) (by first | decide | (dsimp only; first | done | decide | omega) | omega)) (by first | decide | (dsimp only; first | done | decide | omega) | omega)) hFN2 (S := (fun b9 k9 => (b9 = 146 ∧ k9 = 11) ∨ (b9 = 146 ∧ k9 = 13) ∨ (b9 = 146 ∧ k9 = 14) ∨ (b9 = 146 ∧ k9 = 15) ∨ (b9 = 146 ∧ k9 = 16) ∨ (b9 = 146 ∧ k9 = 5) ∨ (b9 = 146 ∧ k9 = 8) ∨ (b9 = 146 ∧ k9 = 9) ∨ b9 = 149 ∨ b9 = 153 ∨ b9 = 154)) (fun b k h => by (try dsimp only at h ⊢); rcases h with ⟨rfl, rfl⟩ | ⟨rfl, rfl⟩ | ⟨rfl, rfl⟩ | ⟨rfl, rfl⟩ | ⟨rfl, rfl⟩ <;> first | decide | omega)
  have kn4 : N2.1 146 16 = zI 0 := (hFN2 146 16 (by first | decide | (dsimp only; first | done | decide | omega) | omega)).trans (st_at)
  have hKN2 : ∀ k9, N2.1 149 k9 = M.1 149 k9 := fun k9 => (hFN2 149 k9 (by first | decide | (dsimp only; first | done | decide | omega) | omega)).trans (rfl)
  have lp21 : ∀ (f : Nat) (v1_21 : Int) (g146_16_21 : Int) (g146_13_21 : Int) (g146_11_21 : Int) (NL21 : Mem), (0 ≤ v1_21 ∧ v1_21 ≤ 8) → (0 ≤ g146_16_21 ∧ g146_16_21 ≤ 1) → ((-2147483648) ≤ g146_13_21 ∧ g146_13_21 ≤ 2147483647) → ((-99) ≤ g146_11_21 ∧ g146_11_21 ≤ 300) → NL21.1 146 16 = zI g146_16_21 → NL21.1 146 13 = zI g146_13_21 → NL21.1 146 11 = zI g146_11_21 → (g146_16_21 ≠ 0 ∨ ∀ r : Nat, (r : Int) < v1_21 → RKr (NL21.1 154) (8 * r)) → ((g146_13_21 ≠ 2 ∨ 0 ≤ g146_11_21)) → (∀ k9, NL21.1 149 k9 = M.1 149 k9) → IvR NL21 → Fr (fun b9 k9 => (b9 = 146 ∧ k9 = 11) ∨ (b9 = 146 ∧ k9 = 13) ∨ (b9 = 146 ∧ k9 = 14) ∨ (b9 = 146 ∧ k9 = 15) ∨ (b9 = 146 ∧ k9 = 16) ∨ (b9 = 146 ∧ k9 = 5) ∨ (b9 = 146 ∧ k9 = 8) ∨ (b9 = 146 ∧ k9 = 9) ∨ b9 = 149 ∨ b9 = 153 ∨ b9 = 154) NL21 M → (Int.toNat (20 - 2 * v1_21 - g146_16_21) < f) → ∀ (H : Heap) (locs : List Loc) (ls : Array Slot), Wd D B cy s s.heap NL21 H locs → lv_has ls 3 [(1, .int (zI v1_21)), (0, .ref (B + 146))] → W p l e (rmm 6 130) s m args below meth c H locs 0 0 Q (F0 m 21 ls []) := by
    intro f
    induction f with
    | zero => intros; omega
    | succ f ih21 =>
      intro v1_21 g146_16_21 g146_13_21 g146_11_21 NL21 iv1_21 ig146_16_21 ig146_13_21 ig146_11_21 eg146_16_21 eg146_13_21 eg146_11_21 y21_0 y21_1 y21_2 hIL21 hFL21 hf21 H locs ls w hl
      refine lv_aload_n hx hb dX12_rules_21 rfl (lv_at hl 1 rfl) ?_
      refine f_12_16 F w (a := 146) rfl tb_669 dX12_rules_22 ?_
      refine r_val (v := zI g146_16_21) (eg146_16_21) ?_
      refine z_if_ne (tgt := 97) hx hb (by omega) dX12_rules_25 (by decide) (fun c5 => ?_) (fun c5 => ?_)
      · refine lv_aload_n hx hb dX12_rules_97 rfl (lv_at hl 1 rfl) ?_
        refine lv_iconst (v := zI 0) hx hb dX12_rules_98 rfl ?_
        refine u_12_8 F w (a := 146) rfl tb_587 dX12_rules_99 (fun H locs w => ?_)
        refine lv_aload_n hx hb dX12_rules_102 rfl (lv_at hl 1 rfl) ?_
        refine f_12_16 F w (a := 146) rfl tb_669 dX12_rules_103 ?_
        refine r_val (v := zI g146_16_21) ((st_ne (Or.inr (by decide))).trans eg146_16_21) ?_
        refine z_if_eq (tgt := 117) hx hb (by omega) dX12_rules_106 (by decide) (fun c6 => False.elim (by omega)) (fun c6 => ?_)
        refine lv_bipush (v := zI (-4)) hx hb dX12_rules_109 (by decide) ?_
        refine lv_aload_n hx hb dX12_rules_111 rfl (lv_at hl 1 rfl) ?_
        refine f_12_14 F w (a := 146) rfl tb_665 dX12_rules_112 ?_
        obtain ⟨z7, bz7, ez7⟩ := IvR.ld (k := 14) (IvR.to hIL21 (a := 146) (k := 8) (x := 0) (show ivr 146 8 = (0, 300) from rfl) ⟨by omega, by omega⟩ ⟨by decide, by decide, by decide, fun q9 => absurd q9 (by decide)⟩) (show ivr 146 14 = ((-2147483648), 2147483647) from rfl) (show 146 ≤ 146 ∧ 146 < 159 by decide)
        refine r_val ez7 ?_
        obtain ⟨z8, bz8, x0z8, ez8⟩ := sub_ex (-4) z7
        refine lv_isub hx hb dX12_rules_115 ?_
        refine r_val ez8 ?_
        rw [hQ]
        exact e_i F w hr hlocks ⟨_, rfl, ⟨by omega, by omega⟩, (IvR.to hIL21 (a := 146) (k := 8) (x := 0) (show ivr 146 8 = (0, 300) from rfl) ⟨by omega, by omega⟩ ⟨by decide, by decide, by decide, fun q9 => absurd q9 (by decide)⟩), (Fr.to hFL21 (by first | decide | (dsimp only; first | done | decide | omega) | omega))⟩ dX12_rules_116
      · refine lv_aload_n hx hb dX12_rules_28 rfl (lv_at hl 1 rfl) ?_
        refine f_12_13 F w (a := 146) rfl tb_602 dX12_rules_29 ?_
        refine r_val (v := zI g146_13_21) (eg146_13_21) ?_
        refine z_if_eq (tgt := 97) hx hb (by omega) dX12_rules_32 (by decide) (fun c9 => ?_) (fun c9 => ?_)
        · refine lv_aload_n hx hb dX12_rules_97 rfl (lv_at hl 1 rfl) ?_
          refine lv_iconst (v := zI 0) hx hb dX12_rules_98 rfl ?_
          refine u_12_8 F w (a := 146) rfl tb_587 dX12_rules_99 (fun H locs w => ?_)
          refine lv_aload_n hx hb dX12_rules_102 rfl (lv_at hl 1 rfl) ?_
          refine f_12_16 F w (a := 146) rfl tb_669 dX12_rules_103 ?_
          refine r_val (v := zI g146_16_21) ((st_ne (Or.inr (by decide))).trans eg146_16_21) ?_
          refine z_if_eq (tgt := 117) hx hb (by omega) dX12_rules_106 (by decide) (fun c10 => ?_) (fun c10 => False.elim (by omega))
          refine lv_iconst (v := zI 0) hx hb dX12_rules_117 rfl ?_
          have hK21 : ∀ k9, (Prod.fst (st NL21 146 8 (zI 0))) 149 k9 = M.1 149 k9 := fun k9 => ((st_ne (Or.inl (by decide))).trans (y21_2 k9))
          refine lv_istore_n (lv' := [(2, .int (zI 0)), (1, .int (zI v1_21)), (0, .ref (B + 146))]) hx hb dX12_rules_118 rfl hl (by decide) rfl (fun ls hl => ?_)
          have hRK9 : ∀ r : Nat, (r : Int) < v1_21 → RKr ((Prod.fst (st NL21 146 8 (zI 0))) 154) (8 * r) := y21_0.resolve_left (by omega)
          have hIN11 : IvB (st NL21 146 8 (zI 0)) := IvR.b (IvR.to hIL21 (a := 146) (k := 8) (x := 0) (show ivr 146 8 = (0, 300) from rfl) ⟨by omega, by omega⟩ ⟨by decide, by decide, by decide, fun q9 => absurd q9 (by decide)⟩)
          have hFN11 : Fr (fun b9 k9 => (b9 = 146 ∧ k9 = 11) ∨ (b9 = 146 ∧ k9 = 13) ∨ (b9 = 146 ∧ k9 = 14) ∨ (b9 = 146 ∧ k9 = 15) ∨ (b9 = 146 ∧ k9 = 16) ∨ (b9 = 146 ∧ k9 = 5) ∨ (b9 = 146 ∧ k9 = 8) ∨ (b9 = 146 ∧ k9 = 9) ∨ b9 = 149 ∨ b9 = 153 ∨ b9 = 154) (st NL21 146 8 (zI 0)) M := (Fr.to hFL21 (by first | decide | (dsimp only; first | done | decide | omega) | omega))
          have hK9 : ∀ k9, (Prod.fst (st NL21 146 8 (zI 0))) 149 k9 = M.1 149 k9 := hK21
          have kn12 : (Prod.fst (st NL21 146 8 (zI 0))) 146 16 = zI g146_16_21 := (st_ne (Or.inr (by decide))).trans eg146_16_21
          have kn13 : (Prod.fst (st NL21 146 8 (zI 0))) 146 13 = zI g146_13_21 := (st_ne (Or.inr (by decide))).trans eg146_13_21
          have kn14 : (Prod.fst (st NL21 146 8 (zI 0))) 146 11 = zI g146_11_21 := (st_ne (Or.inr (by decide))).trans eg146_11_21
          have kn15 : (Prod.fst (st NL21 146 8 (zI 0))) 146 8 = zI 0 := st_at
          replace w : Wd D B cy s s.heap (st NL21 146 8 (zI 0)) H locs := w
          generalize (st NL21 146 8 (zI 0)) = N11 at w hIN11 hFN11 hRK9 hK9 kn12 kn13 kn14 kn15
          have lp119 : ∀ (f : Nat) (v2_119 : Int)  (NL119 : Mem), (0 ≤ v2_119 ∧ v2_119 ≤ 64) → NL119.1 146 16 = zI g146_16_21 → NL119.1 146 13 = zI g146_13_21 → NL119.1 146 11 = zI g146_11_21 → NL119.1 146 8 = zI 0 → (∀ j : Nat, (j : Int) < v2_119 → NL119.1 149 (0 + j) = NL119.1 154 (0 + j)) → (∀ i : Nat, i < 0 ∨ 0 + (v2_119).toNat ≤ i → NL119.1 149 i = (Prod.fst N11) 149 i) → (∀ i : Nat, NL119.1 154 i = (Prod.fst N11) 154 i) → (v2_119 ≤ 8 * v1_21) → IvB NL119 → Fr (fun b9 k9 => (b9 = 146 ∧ k9 = 11) ∨ (b9 = 146 ∧ k9 = 13) ∨ (b9 = 146 ∧ k9 = 14) ∨ (b9 = 146 ∧ k9 = 15) ∨ (b9 = 146 ∧ k9 = 16) ∨ (b9 = 146 ∧ k9 = 5) ∨ (b9 = 146 ∧ k9 = 8) ∨ (b9 = 146 ∧ k9 = 9) ∨ b9 = 149 ∨ b9 = 153 ∨ b9 = 154) NL119 M → (Int.toNat (64 - v2_119) < f) → ∀ (H : Heap) (locs : List Loc) (ls : Array Slot), Wd D B cy s s.heap NL119 H locs → lv_has ls 3 [(2, .int (zI v2_119)), (1, .int (zI v1_21)), (0, .ref (B + 146))] → W p l e (rmm 6 130) s m args below meth c H locs 0 0 Q (F0 m 119 ls []) := by
            intro f
            induction f with
            | zero => intros; omega
            | succ f ih119 =>
              intro v2_119  NL119 iv2_119 eg146_16_119 eg146_13_119 eg146_11_119 eg146_8_119 y119_0 y119_1 y119_2 y119_3 hIL119 hFL119 hf119 H locs ls w hl
              refine lv_iload_n hx hb dX12_rules_119 rfl (lv_at hl 0 rfl) ?_
              refine lv_bipush (v := zI 8) hx hb dX12_rules_120 (by decide) ?_
              refine lv_iload_n hx hb dX12_rules_122 rfl (lv_at hl 1 rfl) ?_
              refine z_imul (z := (8 * v1_21)) hx hb dX12_rules_123 (by omega) ?_
              refine z_icmp_ge (tgt := 145) hx hb (by omega) (by omega) dX12_rules_124 (by decide) (fun c16 => ?_) (fun c16 => ?_)
              · refine lv_aload_n hx hb dX12_rules_145 rfl (lv_at hl 2 rfl) ?_
                refine lv_iload_n hx hb dX12_rules_146 rfl (lv_at hl 1 rfl) ?_
                refine u_12_5 F w (a := 146) rfl tb_604 dX12_rules_147 (fun H locs w => ?_)
                refine lv_iload_n hx hb dX12_rules_150 rfl (lv_at hl 1 rfl) ?_
                have hf9 : Fr (fun b9 k9 => (b9 = 146 ∧ k9 = 11) ∨ (b9 = 146 ∧ k9 = 13) ∨ (b9 = 146 ∧ k9 = 14) ∨ (b9 = 146 ∧ k9 = 15) ∨ (b9 = 146 ∧ k9 = 16) ∨ (b9 = 146 ∧ k9 = 5) ∨ (b9 = 146 ∧ k9 = 8) ∨ (b9 = 146 ∧ k9 = 9) ∨ b9 = 149 ∨ b9 = 153 ∨ b9 = 154) (st NL119 146 5 (zI v1_21)) M := (Fr.to hFL119 (by first | decide | (dsimp only; first | done | decide | omega) | omega))
                have hb9 : IvB (st NL119 146 5 (zI v1_21)) := (IvB.to hIL119 (a := 146) (k := 5) (x := v1_21) (show ivr 146 5 = (0, 8) from rfl) (by omega) (by decide))
                have h79 : ∀ k9, (Prod.fst (st NL119 146 5 (zI v1_21))) 147 k9 = M.1 147 k9 := fun k9 => hf9 147 k9 (by first | decide | (dsimp only; first | done | decide | omega) | omega)
                have h59 : ∀ k9, (Prod.fst (st NL119 146 5 (zI v1_21))) 155 k9 = M.1 155 k9 := fun k9 => hf9 155 k9 (by first | decide | (dsimp only; first | done | decide | omega) | omega)
                have hk9 : ∀ r, r < 8 → RKr ((Prod.fst (st NL119 146 5 (zI v1_21))) 149) (8 * r) := by
                  intro r hr
                  by_cases q9 : (r : Int) < v1_21
                  · refine RKr_cg (hRK9 r q9) ?_ ?_
                    · have z1 := y119_0 (8 * r) (by omega)
                      rw [show 0 + 8 * r = 8 * r by omega] at z1
                      exact ((st_ne (Or.inl (by decide))).trans z1).trans (y119_2 (8 * r))
                    · have z1 := y119_0 (8 * r + 3) (by omega)
                      rw [show 0 + (8 * r + 3) = 8 * r + 3 by omega] at z1
                      exact ((st_ne (Or.inl (by decide))).trans z1).trans (y119_2 (8 * r + 3))
                  · exact RKr_cg (hI.2.1.2.2 r hr) (((st_ne (Or.inl (by decide))).trans (y119_1 (8 * r) (by omega))).trans (hK9 _)) (((st_ne (Or.inl (by decide))).trans (y119_1 (8 * r + 3) (by omega))).trans (hK9 _))
                rw [hQ]
                exact e_i F w hr hlocks ⟨_, rfl, ⟨by omega, by omega⟩, (IvB.up hb9 hI hf9 (NCw_cg hI.2.1.1.1 (fun k9 _ => h79 k9)) (fun k9 => by first | decide | (dsimp only; first | done | decide | omega) | omega) (fun k9 => by first | decide | (dsimp only; first | done | decide | omega) | omega) (fun i9 hi9 => NCw_cg (hI.2.1.2.1 i9 hi9) (fun k9 _ => h59 _)) hk9), (Fr.to hFL119 (by first | decide | (dsimp only; first | done | decide | omega) | omega))⟩ dX12_rules_151
              · refine lv_aload_n hx hb dX12_rules_127 rfl (lv_at hl 2 rfl) ?_
                refine f_12_4 F w (a := 146) rfl tb_532 dX12_rules_128 ?_
                refine lv_iload_n hx hb dX12_rules_131 rfl (lv_at hl 0 rfl) ?_
                refine lv_aload_n hx hb dX12_rules_132 rfl (lv_at hl 2 rfl) ?_
                refine f_12_18 F w (a := 146) rfl tb_721 dX12_rules_133 ?_
                refine lv_iload_n hx hb dX12_rules_136 rfl (lv_at hl 0 rfl) ?_
                refine g_iald F w (a := 154) rfl (j := (Int.toNat v2_119)) (ix_z (by omega) (by omega)) (by omega) dX12_rules_137 ?_
                obtain ⟨z17, bz17, ez17⟩ := rg_ex (Prod.fst NL119 154 (Int.toNat v2_119))
                refine r_val ez17 ?_
                refine g_iast F w (a := 149) rfl (j := (Int.toNat v2_119)) (ix_z (by omega) (by omega)) (by omega) dX12_rules_138 (fun H locs w => ?_)
                refine z_iinc (v := (v2_119 + 1)) (lv' := [(2, .int (zI (v2_119 + 1))), (1, .int (zI v1_21)), (0, .ref (B + 146))]) hx hb dX12_rules_139 hl (k := 0) rfl (by omega) (by decide) rfl (fun ls hl => ?_)
                refine lv_goto (tgt := 119) hx hb dX12_rules_142 (by decide) ?_
                exact ih119 (v2_119 + 1) (st NL119 149 (Int.toNat v2_119) (zI z17)) (by omega)  ((st_ne (Or.inl (by decide))).trans eg146_16_119) ((st_ne (Or.inl (by decide))).trans eg146_13_119) ((st_ne (Or.inl (by decide))).trans eg146_11_119) ((st_ne (Or.inl (by decide))).trans eg146_8_119) (cp_step (a := 149) (b := 154) (od := 0) (os := 0) (v := v2_119) (by decide) (by omega) (by omega) (by omega) ez17 y119_0) (cp_oth (od := 0) (v := v2_119) (by omega) (by omega) y119_1) (fun i => (st_ne (Or.inl (by decide))).trans (y119_2 i)) (by omega) (IvB.cpA hIL119 (a := 149) (k := (Int.toNat v2_119)) (b := 154) (j := (Int.toNat v2_119)) (x := z17) ez17 bz17 (by decide) rfl (by decide)) (Fr.to hFL119 (by first | decide | (dsimp only; first | done | decide | omega) | omega)) (by omega) _ _ _ w (lv_sub hl [0, 1, 2] rfl)
          exact lp119 _ 0 N11 (by omega) (kn12) (kn13) (kn14) (kn15) (fun j hj => False.elim (by omega)) (fun i hi => rfl) (fun i => rfl) (by omega) hIN11 hFN11 (Nat.lt_succ_self _) _ _ _ w (lv_sub hl [0, 1, 2] rfl)
        · refine lv_iload_n hx hb dX12_rules_35 rfl (lv_at hl 0 rfl) ?_
          refine lv_bipush (v := zI 8) hx hb dX12_rules_36 (by decide) ?_
          refine z_icmp_ne (tgt := 49) hx hb (by omega) (by omega) dX12_rules_38 (by decide) (fun c18 => ?_) (fun c18 => ?_)
          · refine lv_aload_n hx hb dX12_rules_49 rfl (lv_at hl 1 rfl) ?_
            refine k_Vv F w (As := []) (rest := []) (a := 146) (kd_lt (a := 146) (show kd 146 = (12, 0, 0) from rfl) (by decide)) (sh_12 rfl _ _) rfl (q_X12_readsRule (tk := g146_13_21) (eg146_13_21) ⟨by omega, by omega⟩ (nb := g146_11_21) (eg146_11_21) ⟨by omega, by omega⟩ (by omega) hIL21) gv_X12_236 hv_X12_readsRule ⟨(Nat.le_of_ble_eq_true rfl), (Nat.le_of_ble_eq_true rfl)⟩ hl.1 rfl (Nat.le_of_ble_eq_true rfl) ⟨Nat.zero_le _, Nat.zero_le _⟩ dX12_rules_50 (fun N20 H locs hp w => ?_)
            obtain ⟨⟨nz210, nz211, nz212, enz210, enz211, enz212, xz21⟩, alN20, hIN20, hFN20⟩ := hp
            have hGN20 := Fr.tr hFL21 hFN20 (S := (fun b9 k9 => (b9 = 146 ∧ k9 = 11) ∨ (b9 = 146 ∧ k9 = 13) ∨ (b9 = 146 ∧ k9 = 14) ∨ (b9 = 146 ∧ k9 = 15) ∨ (b9 = 146 ∧ k9 = 16) ∨ (b9 = 146 ∧ k9 = 5) ∨ (b9 = 146 ∧ k9 = 8) ∨ (b9 = 146 ∧ k9 = 9) ∨ b9 = 149 ∨ b9 = 153 ∨ b9 = 154)) (fun b k h => by (try dsimp only at h ⊢); rcases h with ⟨rfl, rfl⟩ | ⟨rfl, rfl⟩ | ⟨rfl, rfl⟩ | ⟨rfl, rfl⟩ | ⟨rfl, rfl⟩ | ⟨rfl, rfl⟩ | rfl <;> first | decide | omega)
            have hKN20 : ∀ k9, N20.1 149 k9 = M.1 149 k9 := fun k9 => (hFN20 149 k9 (by first | decide | (dsimp only; first | done | decide | omega) | omega)).trans (y21_2 k9)
            refine lv_iconst (v := zI 0) hx hb dX12_rules_53 rfl ?_
            refine lv_istore_n (lv' := [(2, .int (zI 0)), (1, .int (zI v1_21)), (0, .ref (B + 146))]) hx hb dX12_rules_54 rfl hl (by decide) rfl (fun ls hl => ?_)
            have lp55 : ∀ (f : Nat) (v2_55 : Int)  (NL55 : Mem), (0 ≤ v2_55 ∧ v2_55 ≤ 8) → NL55.1 146 13 = zI nz210 → NL55.1 146 11 = zI nz211 → NL55.1 146 16 = zI nz212 → (∀ j : Nat, (j : Int) < v2_55 → NL55.1 154 (Int.toNat (8 * v1_21) + j) = NL55.1 153 (0 + j)) → (∀ i : Nat, i < Int.toNat (8 * v1_21) ∨ Int.toNat (8 * v1_21) + (v2_55).toNat ≤ i → NL55.1 154 i = (Prod.fst N20) 154 i) → (∀ i : Nat, NL55.1 153 i = (Prod.fst N20) 153 i) → (∀ k9, NL55.1 149 k9 = M.1 149 k9) → IvR NL55 → Fr (fun b9 k9 => (b9 = 146 ∧ k9 = 11) ∨ (b9 = 146 ∧ k9 = 13) ∨ (b9 = 146 ∧ k9 = 14) ∨ (b9 = 146 ∧ k9 = 15) ∨ (b9 = 146 ∧ k9 = 16) ∨ (b9 = 146 ∧ k9 = 5) ∨ (b9 = 146 ∧ k9 = 8) ∨ (b9 = 146 ∧ k9 = 9) ∨ b9 = 149 ∨ b9 = 153 ∨ b9 = 154) NL55 M → (Int.toNat (8 - v2_55) < f) → ∀ (H : Heap) (locs : List Loc) (ls : Array Slot), Wd D B cy s s.heap NL55 H locs → lv_has ls 3 [(2, .int (zI v2_55)), (1, .int (zI v1_21)), (0, .ref (B + 146))] → W p l e (rmm 6 130) s m args below meth c H locs 0 0 Q (F0 m 55 ls []) := by
              intro f
              induction f with
              | zero => intros; omega
              | succ f ih55 =>
                intro v2_55  NL55 iv2_55 eg146_13_55 eg146_11_55 eg146_16_55 y55_0 y55_1 y55_2 y55_3 hIL55 hFL55 hf55 H locs ls w hl
                refine lv_iload_n hx hb dX12_rules_55 rfl (lv_at hl 0 rfl) ?_
                refine lv_bipush (v := zI 8) hx hb dX12_rules_56 (by decide) ?_
                refine z_icmp_ge (tgt := 91) hx hb (by omega) (by omega) dX12_rules_58 (by decide) (fun c22 => ?_) (fun c22 => ?_)
                · refine z_iinc (v := (v1_21 + 1)) (lv' := [(1, .int (zI (v1_21 + 1))), (2, .int (zI v2_55)), (0, .ref (B + 146))]) hx hb dX12_rules_91 hl (k := 1) rfl (by omega) (by decide) rfl (fun ls hl => ?_)
                  refine lv_goto (tgt := 21) hx hb dX12_rules_94 (by decide) ?_
                  exact ih21 (v1_21 + 1) nz212 nz210 nz211 NL55 (by omega) (by omega) (by omega) (by omega) (eg146_16_55) (eg146_13_55) (eg146_11_55) (Or.inr (fun r hr => by (have h0 : ∀ i : Nat, i < 64 → N20.1 154 i = NL21.1 154 i := fun i _ => hFN20 154 i (by first | decide | (dsimp only; first | done | decide | omega) | omega);  by_cases q9 : (r : Int) < v1_21; (have h2 := y21_0.resolve_left (by omega) r q9; exact RKr_cg h2 ((y55_1 (8 * r) (by omega)).trans (h0 (8 * r) (by omega))) ((y55_1 (8 * r + 3) (by omega)).trans (h0 (8 * r + 3) (by omega)))); (refine RKr_cg (o := 0) alN20 ?_ ?_; (have z1 := y55_0 0 (by omega); rw [show Int.toNat (8 * v1_21) + 0 = 8 * r by omega] at z1; exact z1.trans (y55_2 0)); (have z1 := y55_0 3 (by omega); rw [show Int.toNat (8 * v1_21) + 3 = 8 * r + 3 by omega] at z1; exact z1.trans (y55_2 3)))))) (by omega) (y55_3) hIL55 hFL55 (by omega) _ _ _ w (lv_sub hl [0, 2] rfl)
                · refine lv_aload_n hx hb dX12_rules_61 rfl (lv_at hl 2 rfl) ?_
                  refine f_12_16 F w (a := 146) rfl tb_669 dX12_rules_62 ?_
                  refine r_val (v := zI nz212) (eg146_16_55) ?_
                  refine z_if_ne (tgt := 91) hx hb (by omega) dX12_rules_65 (by decide) (fun c23 => ?_) (fun c23 => ?_)
                  · refine z_iinc (v := (v1_21 + 1)) (lv' := [(1, .int (zI (v1_21 + 1))), (2, .int (zI v2_55)), (0, .ref (B + 146))]) hx hb dX12_rules_91 hl (k := 1) rfl (by omega) (by decide) rfl (fun ls hl => ?_)
                    refine lv_goto (tgt := 21) hx hb dX12_rules_94 (by decide) ?_
                    exact ih21 (v1_21 + 1) nz212 nz210 nz211 NL55 (by omega) (by omega) (by omega) (by omega) (eg146_16_55) (eg146_13_55) (eg146_11_55) (Or.inl (by omega)) (by omega) (y55_3) hIL55 hFL55 (by omega) _ _ _ w (lv_sub hl [0, 2] rfl)
                  · refine lv_aload_n hx hb dX12_rules_68 rfl (lv_at hl 2 rfl) ?_
                    refine f_12_18 F w (a := 146) rfl tb_721 dX12_rules_69 ?_
                    refine lv_bipush (v := zI 8) hx hb dX12_rules_72 (by decide) ?_
                    refine lv_iload_n hx hb dX12_rules_74 rfl (lv_at hl 1 rfl) ?_
                    refine z_imul (z := (8 * v1_21)) hx hb dX12_rules_75 (by omega) ?_
                    refine lv_iload_n hx hb dX12_rules_76 rfl (lv_at hl 0 rfl) ?_
                    refine z_iadd (z := ((8 * v1_21) + v2_55)) hx hb dX12_rules_77 (by omega) ?_
                    refine lv_aload_n hx hb dX12_rules_78 rfl (lv_at hl 2 rfl) ?_
                    refine f_12_17 F w (a := 146) rfl tb_676 dX12_rules_79 ?_
                    refine lv_iload_n hx hb dX12_rules_82 rfl (lv_at hl 0 rfl) ?_
                    refine g_iald F w (a := 153) rfl (j := (Int.toNat v2_55)) (ix_z (by omega) (by omega)) (by omega) dX12_rules_83 ?_
                    obtain ⟨z24, bz24, ez24⟩ := IvR.ld (k := (Int.toNat v2_55)) hIL55 (show ivr 153 (Int.toNat v2_55) = ((-99), 300) from rfl) (show 146 ≤ 153 ∧ 153 < 159 by decide)
                    refine r_val ez24 ?_
                    refine g_iast F w (a := 154) rfl (j := (Int.toNat ((8 * v1_21) + v2_55))) (ix_z (by omega) (by omega)) (by omega) dX12_rules_84 (fun H locs w => ?_)
                    refine z_iinc (v := (v2_55 + 1)) (lv' := [(2, .int (zI (v2_55 + 1))), (1, .int (zI v1_21)), (0, .ref (B + 146))]) hx hb dX12_rules_85 hl (k := 0) rfl (by omega) (by decide) rfl (fun ls hl => ?_)
                    refine lv_goto (tgt := 55) hx hb dX12_rules_88 (by decide) ?_
                    exact ih55 (v2_55 + 1) (st NL55 154 (Int.toNat ((8 * v1_21) + v2_55)) (zI z24)) (by omega)  ((st_ne (Or.inl (by decide))).trans eg146_13_55) ((st_ne (Or.inl (by decide))).trans eg146_11_55) ((st_ne (Or.inl (by decide))).trans eg146_16_55) (cp_step (a := 154) (b := 153) (od := Int.toNat (8 * v1_21)) (os := 0) (v := v2_55) (by decide) (by omega) (by omega) (by omega) ez24 y55_0) (cp_oth (od := Int.toNat (8 * v1_21)) (v := v2_55) (by omega) (by omega) y55_1) (fun i => (st_ne (Or.inl (by decide))).trans (y55_2 i)) (fun k9 => (st_ne (Or.inl (by decide))).trans (y55_3 k9)) (IvR.to hIL55 (a := 154) (k := (Int.toNat ((8 * v1_21) + v2_55))) (x := z24) (show ivr 154 (Int.toNat ((8 * v1_21) + v2_55)) = ((-99), 300) from rfl) ⟨by omega, by omega⟩ ⟨by decide, by decide, by decide, fun q9 => absurd q9 (by decide)⟩) (Fr.to hFL55 (by first | decide | (dsimp only; first | done | decide | omega) | omega)) (by omega) _ _ _ w (lv_sub hl [0, 1, 2] rfl)
            exact lp55 _ 0 N20 (by omega) (enz210) (enz211) (enz212) (fun j hj => False.elim (by omega)) (fun i hi => rfl) (fun i => rfl) (hKN20) hIN20 hGN20 (Nat.lt_succ_self _) _ _ _ w (lv_sub hl [0, 1, 2] rfl)
          · refine lv_aload_n hx hb dX12_rules_41 rfl (lv_at hl 1 rfl) ?_
            refine lv_iconst (v := zI 1) hx hb dX12_rules_42 rfl ?_
            refine u_12_16 F w (a := 146) rfl (nar_z (by omega)) (fit_z (by omega)) tb_669 dX12_rules_43 (fun H locs w => ?_)
            refine lv_goto (tgt := 21) hx hb dX12_rules_46 (by decide) ?_
            exact ih21 v1_21 1 g146_13_21 g146_11_21 (st NL21 146 16 (zI 1)) (by omega) (by omega) (by omega) (by omega) (st_at) ((st_ne (Or.inr (by decide))).trans eg146_13_21) ((st_ne (Or.inr (by decide))).trans eg146_11_21) (Or.inl (by omega)) (by omega) (fun k9 => (st_ne (Or.inl (by decide))).trans (y21_2 k9)) (IvR.to hIL21 (a := 146) (k := 16) (x := 1) (show ivr 146 16 = (0, 1) from rfl) ⟨by omega, by omega⟩ ⟨by decide, by decide, by decide, fun q9 => absurd q9 (by decide)⟩) (Fr.to hFL21 (by first | decide | (dsimp only; first | done | decide | omega) | omega)) (by omega) _ _ _ w (lv_sub hl [0, 1] rfl)
  exact lp21 _ 0 0 nz30 nz31 N2 (by omega) (by omega) (by omega) (by omega) (kn4) (enz30) (enz31) (Or.inr (fun r hr => False.elim (by omega))) (by omega) (hKN2) hIN2 hGN2 (Nat.lt_succ_self _) _ _ _ w (lv_sub hl [0, 1] rfl)
