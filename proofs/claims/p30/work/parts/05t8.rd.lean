theorem rdX12_goesOn_84 : decode cX12_goesOn 84 = .ok (.aload_n 0, 1) := dq0 kk_42 (by decide +kernel)
theorem rdX12_goesOn_85 : decode cX12_goesOn 85 = .ok (.invokevirtual 175, 3) := dqV kk_182 (by decide +kernel)
theorem rdX12_goesOn_88 : decode cX12_goesOn 88 = .ok (.bipush 97, 2) := dqS kk_16 (by decide +kernel)
theorem rdX12_goesOn_90 : decode cX12_goesOn 90 = .ok (.bipush 122, 2) := dqS kk_16 (by decide +kernel)
theorem rdX12_goesOn_92 : decode cX12_goesOn 92 = .ok (.invokestatic 55, 3) := dqV kk_184 (by decide +kernel)
theorem rdX12_goesOn_95 : decode cX12_goesOn 95 = .ok (.ifCond .eq 16, 3) := dqT kk_153 (by decide +kernel)
theorem rdX12_goesOn_98 : decode cX12_goesOn 98 = .ok (.aload_n 0, 1) := dq0 kk_42 (by decide +kernel)
theorem rdX12_goesOn_99 : decode cX12_goesOn 99 = .ok (.dup, 1) := dq0 kk_89 (by decide +kernel)
theorem rdX12_goesOn_100 : decode cX12_goesOn 100 = .ok (.getfield 172, 3) := dqV kk_180 (by decide +kernel)
theorem rdX12_goesOn_103 : decode cX12_goesOn 103 = .ok (.iconst 1, 1) := dq0 kk_4 (by decide +kernel)
theorem rdX12_goesOn_104 : decode cX12_goesOn 104 = .ok (.iadd, 1) := dq0 kk_96 (by decide +kernel)
theorem rdX12_goesOn_105 : decode cX12_goesOn 105 = .ok (.putfield 172, 3) := dqV kk_181 (by decide +kernel)
theorem rdX12_goesOn_108 : decode cX12_goesOn 108 = .ok (.goto (-24), 3) := dqT kk_167 (by decide +kernel)
set_option maxRecDepth 4000 in
theorem lp_X12_goesOn {p : Program} {l : Launch} {e : Env} {s : State} {m : MethodId} {args : Array Value} {below : List Frame} {meth : Method} {c : Code} {D : va_G} {B : Nat} {cy : Nat → ClassId} {H0 : Heap} {Q : State → Prop} {M : Mem} {R : Room} {T : Nat → Nat} {tn E gl : Nat} (F : CallFix p m c cX12_goesOn 5 s args TB RX12) (hR1 : 1 ≤ R.frames) (hR2 : 22 ≤ R.locals) (hT : okT T tn) (hE : E ≤ tn) (kk : ∀ (k : Nat) (Nm : Mem) (H : Heap) (locs : List Loc) (ls : Array Slot), (k = lx T tn (sk T tn E)) → (Nm.1 146 9 = zI (k : Int)) → (isTr Nm T tn) → (isWd Nm) → (Nm.1 146 14 = zI (((sk T tn E) : Nat) : Int)) → (FrG Nm M) → ((sk T tn E) ≤ k ∧ k ≤ tn) → Wd D B cy s H0 Nm H locs → lv_has ls 5 [(0, .ref (B + 146)), (3, .int (zI (gl : Int)))] → W p l e R s m args below meth c H locs 0 0 Q (F0 m 111 ls [])) : ∀ (f : Nat) (k : Nat) (Nm : Mem), ((sk T tn E) ≤ k) → (k ≤ tn) → (lx T tn k = lx T tn (sk T tn E)) → (Nm.1 146 9 = zI (k : Int)) → (isTr Nm T tn) → (isWd Nm) → (Nm.1 146 14 = zI (((sk T tn E) : Nat) : Int)) → (FrG Nm M) → (tn ≤ k + f) → ∀ (H : Heap) (locs : List Loc) (ls : Array Slot), Wd D B cy s H0 Nm H locs → lv_has ls 5 [(0, .ref (B + 146)), (3, .int (zI (gl : Int)))] → W p l e R s m args below meth c H locs 0 0 Q (F0 m 84 ls []) := by
  have hx := F.1
  have hb := F.2.1
  have hN := hT.1
  have hsk := sk_le (T := T) hE
  intro f
  induction f with
  | zero =>
    intro k Nm i0 i1 i2 i3 i4 i5 i6 i7 hf H locs ls w hl
    refine lv_aload_n hx hb rdX12_goesOn_84 rfl (lv_at hl 0 rfl) ?_
    refine x_Vi F w (As := []) (rest := []) (a := 146) (kd_lt (a := 146) (show kd 146 = (12, 0, 0) from rfl) (by decide)) (sh_12 rfl _ _) rfl (t_here hT i4 (A := k) (i3) (by omega)) rgv_X12_175 rhv_X12_here ⟨(by omega), (by omega)⟩ hl.1 rfl (Nat.le_of_ble_eq_true rfl) ⟨Nat.zero_le _, Nat.zero_le _⟩ rdX12_goesOn_85 (fun H locs w => ?_)
    have hg0 := sg_rg hT (k : Int)
    have hh0 := sg_c (T := T) (N := tn) k
    refine lv_bipush (v := zI 97) hx hb rdX12_goesOn_88 (by decide) ?_
    refine lv_bipush (v := zI 122) hx hb rdX12_goesOn_90 (by decide) ?_
    refine k_Si F w (As := [.int (zI (sg T tn (k : Int))), .int (zI 97), .int (zI 122)]) (rest := []) (t_in (v := (sg T tn (k : Int))) (a := 97) (b := 122) (by omega) (by omega) (by omega)) rgs_X12_55 rhs_X12_in ⟨(by omega), (by omega)⟩ hl.1 rfl (Nat.le_of_ble_eq_true rfl) ⟨Nat.zero_le _, Nat.zero_le _⟩ rdX12_goesOn_92 (fun r Ma3 H locs hp w => ?_)
    rcases hp with ⟨⟨hb2, rfl⟩ | ⟨hb2, rfl⟩, hMe⟩
    · rw [hMe] at w
      refine z_if_eq (tgt := 111) hx hb (by omega) rdX12_goesOn_95 (by decide) (fun c4 => False.elim (by omega)) (fun c4 => ?_)
      refine lv_aload_n hx hb rdX12_goesOn_98 rfl (lv_at hl 0 rfl) ?_
      refine lv_dup hx hb rdX12_goesOn_99 rfl ?_
      refine f_12_9 F w (a := 146) rfl rtb_120 rdX12_goesOn_100 ?_
      refine r_val (v := (zI (k : Int))) (i3) ?_
      refine lv_iconst (v := zI 1) hx hb rdX12_goesOn_103 rfl ?_
      refine z_iadd (z := (((k + 1) : Nat) : Int)) hx hb rdX12_goesOn_104 (by omega) ?_
      refine u_12_9 F w (a := 146) rfl rtb_120 rdX12_goesOn_105 (fun H locs w => ?_)
      refine lv_goto (tgt := 84) hx hb rdX12_goesOn_108 (by decide) ?_
      exact False.elim (by omega)
    · rw [hMe] at w
      refine z_if_eq (tgt := 111) hx hb (by omega) rdX12_goesOn_95 (by decide) (fun c5 => ?_) (fun c5 => False.elim (by omega))
      exact kk k Nm _ _ ls ((lx_e (by omega)).symm.trans i2) i3 i4 i5 i6 i7 (by omega) w (lv_sub hl [0, 1] rfl)
  | succ f ih =>
    intro k Nm i0 i1 i2 i3 i4 i5 i6 i7 hf H locs ls w hl
    refine lv_aload_n hx hb rdX12_goesOn_84 rfl (lv_at hl 0 rfl) ?_
    refine x_Vi F w (As := []) (rest := []) (a := 146) (kd_lt (a := 146) (show kd 146 = (12, 0, 0) from rfl) (by decide)) (sh_12 rfl _ _) rfl (t_here hT i4 (A := k) (i3) (by omega)) rgv_X12_175 rhv_X12_here ⟨(by omega), (by omega)⟩ hl.1 rfl (Nat.le_of_ble_eq_true rfl) ⟨Nat.zero_le _, Nat.zero_le _⟩ rdX12_goesOn_85 (fun H locs w => ?_)
    have hg0 := sg_rg hT (k : Int)
    have hh0 := sg_c (T := T) (N := tn) k
    refine lv_bipush (v := zI 97) hx hb rdX12_goesOn_88 (by decide) ?_
    refine lv_bipush (v := zI 122) hx hb rdX12_goesOn_90 (by decide) ?_
    refine k_Si F w (As := [.int (zI (sg T tn (k : Int))), .int (zI 97), .int (zI 122)]) (rest := []) (t_in (v := (sg T tn (k : Int))) (a := 97) (b := 122) (by omega) (by omega) (by omega)) rgs_X12_55 rhs_X12_in ⟨(by omega), (by omega)⟩ hl.1 rfl (Nat.le_of_ble_eq_true rfl) ⟨Nat.zero_le _, Nat.zero_le _⟩ rdX12_goesOn_92 (fun r Ma3 H locs hp w => ?_)
    rcases hp with ⟨⟨hb2, rfl⟩ | ⟨hb2, rfl⟩, hMe⟩
    · rw [hMe] at w
      refine z_if_eq (tgt := 111) hx hb (by omega) rdX12_goesOn_95 (by decide) (fun c4 => False.elim (by omega)) (fun c4 => ?_)
      refine lv_aload_n hx hb rdX12_goesOn_98 rfl (lv_at hl 0 rfl) ?_
      refine lv_dup hx hb rdX12_goesOn_99 rfl ?_
      refine f_12_9 F w (a := 146) rfl rtb_120 rdX12_goesOn_100 ?_
      refine r_val (v := (zI (k : Int))) (i3) ?_
      refine lv_iconst (v := zI 1) hx hb rdX12_goesOn_103 rfl ?_
      refine z_iadd (z := (((k + 1) : Nat) : Int)) hx hb rdX12_goesOn_104 (by omega) ?_
      refine u_12_9 F w (a := 146) rfl rtb_120 rdX12_goesOn_105 (fun H locs w => ?_)
      refine lv_goto (tgt := 84) hx hb rdX12_goesOn_108 (by decide) ?_
      exact ih (k + 1) (st Nm 146 9 (zI (((k + 1) : Nat) : Int))) (by omega) (by omega) ((lx_s (by omega) (by omega) (by omega)).symm.trans i2) st_at (isTr.o i4 (Or.inr (by decide)) (by decide)) (isWd.fr i5 (st_o (by decide))) ((st_ne (Or.inr (by decide))).trans i6) (FrG.to i7 (by decide)) (by omega) _ _ ls w (lv_sub hl [0, 1] rfl)
    · rw [hMe] at w
      refine z_if_eq (tgt := 111) hx hb (by omega) rdX12_goesOn_95 (by decide) (fun c5 => ?_) (fun c5 => False.elim (by omega))
      exact kk k Nm _ _ ls ((lx_e (by omega)).symm.trans i2) i3 i4 i5 i6 i7 (by omega) w (lv_sub hl [0, 1] rfl)
theorem rdX12_goesOn_0 : decode cX12_goesOn 0 = .ok (.aload_n 0, 1) := dq0 kk_42 (by decide +kernel)
theorem rdX12_goesOn_1 : decode cX12_goesOn 1 = .ok (.getfield 204, 3) := dqV kk_180 (by decide +kernel)
theorem rtb_127 : Cond.fieldLink "ToneLinesModel" 204 "ToneLinesModel" "token" "I" ∈ TB := tbm (tc5 (List.mem_of_getElem? (i := 69) rfl)) rfl
theorem rdX12_goesOn_4 : decode cX12_goesOn 4 = .ok (.istore_n 1, 1) := dq0 kk_60 (by decide +kernel)
theorem rdX12_goesOn_5 : decode cX12_goesOn 5 = .ok (.aload_n 0, 1) := dq0 kk_42 (by decide +kernel)
theorem rdX12_goesOn_6 : decode cX12_goesOn 6 = .ok (.getfield 172, 3) := dqV kk_180 (by decide +kernel)
theorem rdX12_goesOn_9 : decode cX12_goesOn 9 = .ok (.istore_n 2, 1) := dq0 kk_61 (by decide +kernel)
theorem rdX12_goesOn_10 : decode cX12_goesOn 10 = .ok (.aload_n 0, 1) := dq0 kk_42 (by decide +kernel)
theorem rdX12_goesOn_11 : decode cX12_goesOn 11 = .ok (.invokevirtual 179, 3) := dqV kk_182 (by decide +kernel)
theorem rtk_X12_blanks : Cond.code yX12_blanks cX12_blanks 1 none ∈ TB := tbm (tc5 (List.mem_of_getElem? (i := 160) rfl)) rfl
theorem rgc_X12_blanks : GoodIn TB (cw yX12_blanks cX12_blanks 1 none) := goodIn_c2 rtk_X12_blanks
theorem rtb_128 : Cond.methodLink "ToneLinesModel" 179 yX12_blanks ∈ TB := tbm (tc5 (List.mem_of_getElem? (i := 157) rfl)) rfl
theorem rtb_129 : Cond.instanceMethod yX12_blanks ∈ TB := tbm (tc5 (List.mem_of_getElem? (i := 159) rfl)) rfl
theorem rtb_130 : Cond.selects "ToneLinesModel" yX12_blanks yX12_blanks ∈ TB := tbp (List.mem_of_getElem? (i := 38) rfl) rfl
theorem rgv_X12_179 : GoodIn TB (wsV RX12 179 RX12 yX12_blanks (cw yX12_blanks cX12_blanks 1 none)) := goodIn_4 rtb_128 rtb_129 rtb_130 rtb_119 rgc_X12_blanks
theorem rhv_X12_blanks : yX12_blanks.cls = RX12 ∧ yX12_blanks.cls ≠ "java/lang/invoke/MethodHandle" ∧ yX12_blanks.cls ≠ "java/lang/invoke/VarHandle" ∧ (parseMethodDescriptor yX12_blanks.desc).map (fun d => d.parameters.length) = some 0 := by decide +kernel
theorem rdX12_goesOn_14 : decode cX12_goesOn 14 = .ok (.aload_n 0, 1) := dq0 kk_42 (by decide +kernel)
theorem rdX12_goesOn_15 : decode cX12_goesOn 15 = .ok (.aload_n 0, 1) := dq0 kk_42 (by decide +kernel)
theorem rdX12_goesOn_16 : decode cX12_goesOn 16 = .ok (.getfield 172, 3) := dqV kk_180 (by decide +kernel)
theorem rdX12_goesOn_19 : decode cX12_goesOn 19 = .ok (.putfield 207, 3) := dqV kk_181 (by decide +kernel)
theorem rtb_131 : Cond.fieldLink "ToneLinesModel" 207 "ToneLinesModel" "begun" "I" ∈ TB := tbm (tc5 (List.mem_of_getElem? (i := 70) rfl)) rfl
theorem rdX12_goesOn_22 : decode cX12_goesOn 22 = .ok (.aload_n 0, 1) := dq0 kk_42 (by decide +kernel)
theorem rdX12_goesOn_23 : decode cX12_goesOn 23 = .ok (.getfield 207, 3) := dqV kk_180 (by decide +kernel)
theorem rdX12_goesOn_26 : decode cX12_goesOn 26 = .ok (.iload_n 2, 1) := dq0 kk_28 (by decide +kernel)
theorem rdX12_goesOn_27 : decode cX12_goesOn 27 = .ok (.if_icmp .ne 17, 3) := dqT kk_160 (by decide +kernel)
theorem rdX12_goesOn_44 : decode cX12_goesOn 44 = .ok (.iconst 0, 1) := dq0 kk_3 (by decide +kernel)
theorem rdX12_goesOn_45 : decode cX12_goesOn 45 = .ok (.istore_n 3, 1) := dq0 kk_62 (by decide +kernel)
theorem rdX12_goesOn_46 : decode cX12_goesOn 46 = .ok (.aload_n 0, 1) := dq0 kk_42 (by decide +kernel)
theorem rdX12_goesOn_47 : decode cX12_goesOn 47 = .ok (.invokevirtual 175, 3) := dqV kk_182 (by decide +kernel)
theorem rdX12_goesOn_50 : decode cX12_goesOn 50 = .ok (.istore 4, 2) := dqU kk_54 (by decide +kernel)
theorem rdX12_goesOn_52 : decode cX12_goesOn 52 = .ok (.aload_n 0, 1) := dq0 kk_42 (by decide +kernel)
theorem rdX12_goesOn_53 : decode cX12_goesOn 53 = .ok (.bipush 29, 2) := dqS kk_16 (by decide +kernel)
theorem rdX12_goesOn_55 : decode cX12_goesOn 55 = .ok (.putfield 210, 3) := dqV kk_181 (by decide +kernel)
theorem rtb_132 : Cond.fieldLink "ToneLinesModel" 210 "ToneLinesModel" "spelt" "I" ∈ TB := tbm (tc5 (List.mem_of_getElem? (i := 71) rfl)) rfl
theorem rdX12_goesOn_58 : decode cX12_goesOn 58 = .ok (.iload 4, 2) := dqU kk_21 (by decide +kernel)
theorem rdX12_goesOn_60 : decode cX12_goesOn 60 = .ok (.iconst (-1), 1) := dq0 kk_2 (by decide +kernel)
theorem rdX12_goesOn_61 : decode cX12_goesOn 61 = .ok (.if_icmp .ne 11, 3) := dqT kk_160 (by decide +kernel)
theorem rdX12_goesOn_72 : decode cX12_goesOn 72 = .ok (.iload 4, 2) := dqU kk_21 (by decide +kernel)
theorem rdX12_goesOn_74 : decode cX12_goesOn 74 = .ok (.bipush 97, 2) := dqS kk_16 (by decide +kernel)
theorem rdX12_goesOn_76 : decode cX12_goesOn 76 = .ok (.bipush 122, 2) := dqS kk_16 (by decide +kernel)
theorem rdX12_goesOn_78 : decode cX12_goesOn 78 = .ok (.invokestatic 55, 3) := dqV kk_184 (by decide +kernel)
theorem rdX12_goesOn_81 : decode cX12_goesOn 81 = .ok (.ifCond .eq 62, 3) := dqT kk_153 (by decide +kernel)
theorem rdX12_goesOn_111 : decode cX12_goesOn 111 = .ok (.aload_n 0, 1) := dq0 kk_42 (by decide +kernel)
theorem rdX12_goesOn_112 : decode cX12_goesOn 112 = .ok (.iload_n 3, 1) := dq0 kk_29 (by decide +kernel)
theorem rdX12_goesOn_113 : decode cX12_goesOn 113 = .ok (.ifCond .eq 7, 3) := dqT kk_153 (by decide +kernel)
theorem rdX12_goesOn_120 : decode cX12_goesOn 120 = .ok (.iconst 1, 1) := dq0 kk_4 (by decide +kernel)
theorem rdX12_goesOn_121 : decode cX12_goesOn 121 = .ok (.putfield 204, 3) := dqV kk_181 (by decide +kernel)
theorem rdX12_goesOn_124 : decode cX12_goesOn 124 = .ok (.aload_n 0, 1) := dq0 kk_42 (by decide +kernel)
theorem rdX12_goesOn_125 : decode cX12_goesOn 125 = .ok (.aload_n 0, 1) := dq0 kk_42 (by decide +kernel)
theorem rdX12_goesOn_126 : decode cX12_goesOn 126 = .ok (.aload_n 0, 1) := dq0 kk_42 (by decide +kernel)
theorem rdX12_goesOn_127 : decode cX12_goesOn 127 = .ok (.getfield 207, 3) := dqV kk_180 (by decide +kernel)
theorem rdX12_goesOn_130 : decode cX12_goesOn 130 = .ok (.aload_n 0, 1) := dq0 kk_42 (by decide +kernel)
theorem rdX12_goesOn_131 : decode cX12_goesOn 131 = .ok (.getfield 172, 3) := dqV kk_180 (by decide +kernel)
theorem rdX12_goesOn_134 : decode cX12_goesOn 134 = .ok (.invokevirtual 213, 3) := dqV kk_182 (by decide +kernel)
theorem rtk_X12_wordAt : Cond.code yX12_wordAt cX12_wordAt 7 (some .int) ∈ TB := tbm (tc5 (List.mem_of_getElem? (i := 209) rfl)) rfl
theorem rgc_X12_wordAt : GoodIn TB (cw yX12_wordAt cX12_wordAt 7 (some .int)) := goodIn_c2 rtk_X12_wordAt
theorem rtb_133 : Cond.methodLink "ToneLinesModel" 213 yX12_wordAt ∈ TB := tbm (tc5 (List.mem_of_getElem? (i := 206) rfl)) rfl
theorem rtb_134 : Cond.instanceMethod yX12_wordAt ∈ TB := tbm (tc5 (List.mem_of_getElem? (i := 208) rfl)) rfl
theorem rtb_135 : Cond.selects "ToneLinesModel" yX12_wordAt yX12_wordAt ∈ TB := tbp (List.mem_of_getElem? (i := 44) rfl) rfl
theorem rgv_X12_213 : GoodIn TB (wsV RX12 213 RX12 yX12_wordAt (cw yX12_wordAt cX12_wordAt 7 (some .int))) := goodIn_4 rtb_133 rtb_134 rtb_135 rtb_119 rgc_X12_wordAt
theorem rhv_X12_wordAt : yX12_wordAt.cls = RX12 ∧ yX12_wordAt.cls ≠ "java/lang/invoke/MethodHandle" ∧ yX12_wordAt.cls ≠ "java/lang/invoke/VarHandle" ∧ (parseMethodDescriptor yX12_wordAt.desc).map (fun d => d.parameters.length) = some 2 := by decide +kernel
theorem rdX12_goesOn_137 : decode cX12_goesOn 137 = .ok (.putfield 210, 3) := dqV kk_181 (by decide +kernel)
theorem rdX12_goesOn_140 : decode cX12_goesOn 140 = .ok (.goto 58, 3) := dqT kk_167 (by decide +kernel)
theorem rdX12_goesOn_198 : decode cX12_goesOn 198 = .ok (.return_, 1) := dq0 kk_177 (by decide +kernel)
theorem rdX12_goesOn_143 : decode cX12_goesOn 143 = .ok (.aload_n 0, 1) := dq0 kk_42 (by decide +kernel)
theorem rdX12_goesOn_144 : decode cX12_goesOn 144 = .ok (.dup, 1) := dq0 kk_89 (by decide +kernel)
theorem rdX12_goesOn_145 : decode cX12_goesOn 145 = .ok (.getfield 172, 3) := dqV kk_180 (by decide +kernel)
theorem rdX12_goesOn_148 : decode cX12_goesOn 148 = .ok (.iconst 1, 1) := dq0 kk_4 (by decide +kernel)
theorem rdX12_goesOn_149 : decode cX12_goesOn 149 = .ok (.iadd, 1) := dq0 kk_96 (by decide +kernel)
theorem rdX12_goesOn_150 : decode cX12_goesOn 150 = .ok (.putfield 172, 3) := dqV kk_181 (by decide +kernel)
theorem rdX12_goesOn_153 : decode cX12_goesOn 153 = .ok (.aload_n 0, 1) := dq0 kk_42 (by decide +kernel)
theorem rdX12_goesOn_154 : decode cX12_goesOn 154 = .ok (.iload 4, 2) := dqU kk_21 (by decide +kernel)
theorem rdX12_goesOn_156 : decode cX12_goesOn 156 = .ok (.invokestatic 182, 3) := dqV kk_184 (by decide +kernel)
theorem rtk_X12_isDigit : Cond.code yX12_isDigit cX12_isDigit 1 (some .boolean) ∈ TB := tbm (tc5 (List.mem_of_getElem? (i := 182) rfl)) rfl
theorem rgc_X12_isDigit : GoodIn TB (cw yX12_isDigit cX12_isDigit 1 (some .boolean)) := goodIn_c2 rtk_X12_isDigit
theorem rtb_136 : Cond.methodLink "ToneLinesModel" 182 yX12_isDigit ∈ TB := tbm (tc5 (List.mem_of_getElem? (i := 180) rfl)) rfl
theorem rtb_137 : Cond.static yX12_isDigit ∈ TB := tbm (tc5 (List.mem_of_getElem? (i := 181) rfl)) rfl
theorem rgs_X12_182 : GoodIn TB (va_wsS RX12 182 yX12_isDigit (cw yX12_isDigit cX12_isDigit 1 (some .boolean))) := goodIn_3 rtb_136 rtb_137 rtb_119 rgc_X12_isDigit
theorem rhs_X12_isDigit : yX12_isDigit.cls ≠ "java/lang/invoke/MethodHandle" ∧ yX12_isDigit.cls ≠ "java/lang/invoke/VarHandle" ∧ (parseMethodDescriptor yX12_isDigit.desc).map (fun d => d.parameters.length) = some 1 := by decide +kernel
theorem rdX12_goesOn_159 : decode cX12_goesOn 159 = .ok (.ifCond .eq 15, 3) := dqT kk_153 (by decide +kernel)
theorem rdX12_goesOn_162 : decode cX12_goesOn 162 = .ok (.iload_n 3, 1) := dq0 kk_29 (by decide +kernel)
theorem rdX12_goesOn_163 : decode cX12_goesOn 163 = .ok (.ifCond .eq 7, 3) := dqT kk_153 (by decide +kernel)
theorem rdX12_goesOn_170 : decode cX12_goesOn 170 = .ok (.iconst 2, 1) := dq0 kk_5 (by decide +kernel)
theorem rdX12_goesOn_171 : decode cX12_goesOn 171 = .ok (.goto 15, 3) := dqT kk_167 (by decide +kernel)
theorem rdX12_goesOn_186 : decode cX12_goesOn 186 = .ok (.putfield 204, 3) := dqV kk_181 (by decide +kernel)
theorem rdX12_goesOn_189 : decode cX12_goesOn 189 = .ok (.aload_n 0, 1) := dq0 kk_42 (by decide +kernel)
theorem rdX12_goesOn_190 : decode cX12_goesOn 190 = .ok (.iload 4, 2) := dqU kk_21 (by decide +kernel)
theorem rdX12_goesOn_192 : decode cX12_goesOn 192 = .ok (.bipush 48, 2) := dqS kk_16 (by decide +kernel)
theorem rdX12_goesOn_194 : decode cX12_goesOn 194 = .ok (.isub, 1) := dq0 kk_100 (by decide +kernel)
theorem rdX12_goesOn_195 : decode cX12_goesOn 195 = .ok (.putfield 185, 3) := dqV kk_181 (by decide +kernel)
theorem rtb_138 : Cond.fieldLink "ToneLinesModel" 185 "ToneLinesModel" "number" "I" ∈ TB := tbm (tc5 (List.mem_of_getElem? (i := 67) rfl)) rfl
theorem rdX12_goesOn_174 : decode cX12_goesOn 174 = .ok (.iload 4, 2) := dqU kk_21 (by decide +kernel)
theorem rdX12_goesOn_176 : decode cX12_goesOn 176 = .ok (.bipush 59, 2) := dqS kk_16 (by decide +kernel)
theorem rdX12_goesOn_178 : decode cX12_goesOn 178 = .ok (.if_icmp .ne 7, 3) := dqT kk_160 (by decide +kernel)
theorem rdX12_goesOn_185 : decode cX12_goesOn 185 = .ok (.iconst 4, 1) := dq0 kk_7 (by decide +kernel)
theorem rdX12_goesOn_181 : decode cX12_goesOn 181 = .ok (.iconst 3, 1) := dq0 kk_6 (by decide +kernel)
theorem rdX12_goesOn_182 : decode cX12_goesOn 182 = .ok (.goto 4, 3) := dqT kk_167 (by decide +kernel)
theorem rdX12_goesOn_64 : decode cX12_goesOn 64 = .ok (.aload_n 0, 1) := dq0 kk_42 (by decide +kernel)
theorem rdX12_goesOn_65 : decode cX12_goesOn 65 = .ok (.iconst 0, 1) := dq0 kk_3 (by decide +kernel)
theorem rdX12_goesOn_66 : decode cX12_goesOn 66 = .ok (.putfield 204, 3) := dqV kk_181 (by decide +kernel)
theorem rdX12_goesOn_69 : decode cX12_goesOn 69 = .ok (.goto 129, 3) := dqT kk_167 (by decide +kernel)
theorem rdX12_goesOn_30 : decode cX12_goesOn 30 = .ok (.iload_n 1, 1) := dq0 kk_27 (by decide +kernel)
theorem rdX12_goesOn_31 : decode cX12_goesOn 31 = .ok (.iconst 1, 1) := dq0 kk_4 (by decide +kernel)
theorem rdX12_goesOn_32 : decode cX12_goesOn 32 = .ok (.if_icmp .eq 8, 3) := dqT kk_159 (by decide +kernel)
theorem rdX12_goesOn_40 : decode cX12_goesOn 40 = .ok (.iconst 1, 1) := dq0 kk_4 (by decide +kernel)
theorem rdX12_goesOn_41 : decode cX12_goesOn 41 = .ok (.goto 4, 3) := dqT kk_167 (by decide +kernel)
theorem rdX12_goesOn_116 : decode cX12_goesOn 116 = .ok (.iconst 4, 1) := dq0 kk_7 (by decide +kernel)
theorem rdX12_goesOn_117 : decode cX12_goesOn 117 = .ok (.goto 4, 3) := dqT kk_167 (by decide +kernel)
theorem rdX12_goesOn_166 : decode cX12_goesOn 166 = .ok (.iconst 4, 1) := dq0 kk_7 (by decide +kernel)
theorem rdX12_goesOn_167 : decode cX12_goesOn 167 = .ok (.goto 19, 3) := dqT kk_167 (by decide +kernel)
theorem rdX12_goesOn_35 : decode cX12_goesOn 35 = .ok (.iload_n 1, 1) := dq0 kk_27 (by decide +kernel)
theorem rdX12_goesOn_36 : decode cX12_goesOn 36 = .ok (.iconst 2, 1) := dq0 kk_5 (by decide +kernel)
theorem rdX12_goesOn_37 : decode cX12_goesOn 37 = .ok (.if_icmp .ne 7, 3) := dqT kk_160 (by decide +kernel)
set_option maxRecDepth 4000 in
theorem t_goesOn {l : Launch} {D : va_G} {B : Nat} {cy : Nat → ClassId} {M : Mem} {T : Nat → Nat} {tn : Nat} (hT : okT T tn) (hTr : isTr M T tn) (hWd : isWd M) {E wa : Nat} (hE : E ≤ tn) (he : M.1 146 9 = zI (E : Int)) (hwa : M.1 146 13 = zI (wa : Int)) (hwa9 : wa ≤ 4) (hgl : (wa = 1 ∨ wa = 2) ↔ (0 < E ∧ nbl (T (E - 1)))) : Cv l D B cy yX12_goesOn cX12_goesOn 5 2 42 [.ref (B + 146)] M (fun M1 => RSr M1 T tn E ∧ FrG M1 M) := by
  refine s_any (by decide) (Nat.le_of_ble_eq_true rfl) ?_
  intro p e s m below meth c ls F hr hlocks w hl
  have F : CallFix p m c cX12_goesOn 5 s _ TB RX12 := F
  have hx := F.1
  have hb := F.2.1
  have hl : lv_has ls 5 [(0, .ref (B + 146))] := hl
  have hN := hT.1
  have hsk := sk_le (T := T) hE
  refine lv_aload_n hx hb rdX12_goesOn_0 rfl (lv_at hl 0 rfl) ?_
  refine f_12_13 F w (a := 146) rfl rtb_127 rdX12_goesOn_1 ?_
  refine r_val (v := (zI (wa : Int))) (hwa) ?_
  refine lv_istore_n (lv' := [(1, .int (zI (wa : Int))), (0, .ref (B + 146))]) hx hb rdX12_goesOn_4 rfl hl (by decide) rfl (fun ls hl => ?_)
  refine lv_aload_n hx hb rdX12_goesOn_5 rfl (lv_at hl 1 rfl) ?_
  refine f_12_9 F w (a := 146) rfl rtb_120 rdX12_goesOn_6 ?_
  refine r_val (v := (zI (E : Int))) (he) ?_
  refine lv_istore_n (lv' := [(2, .int (zI (E : Int))), (1, .int (zI (wa : Int))), (0, .ref (B + 146))]) hx hb rdX12_goesOn_9 rfl hl (by decide) rfl (fun ls hl => ?_)
  refine lv_aload_n hx hb rdX12_goesOn_10 rfl (lv_at hl 2 rfl) ?_
  refine k_Vv F w (As := []) (rest := []) (a := 146) (kd_lt (a := 146) (show kd 146 = (12, 0, 0) from rfl) (by decide)) (sh_12 rfl _ _) rfl (t_blanks hT hTr he hE) rgv_X12_179 rhv_X12_blanks ⟨(Nat.le_of_ble_eq_true rfl), (Nat.le_of_ble_eq_true rfl)⟩ hl.1 rfl (Nat.le_of_ble_eq_true rfl) ⟨Nat.zero_le _, Nat.zero_le _⟩ rdX12_goesOn_11 (fun Ma1 H locs hp w => ?_)
  rcases hp with ⟨hk9, hB9⟩
  have hTr1 := isTr.n9 hTr hB9
  have hWd1 := isWd.fr hWd (hB9.1 152 (by decide))
  refine lv_aload_n hx hb rdX12_goesOn_14 rfl (lv_at hl 2 rfl) ?_
  refine lv_aload_n hx hb rdX12_goesOn_15 rfl (lv_at hl 2 rfl) ?_
  refine f_12_9 F w (a := 146) rfl rtb_120 rdX12_goesOn_16 ?_
  refine r_val (v := (zI (((sk T tn E) : Nat) : Int))) (hk9) ?_
  refine u_12_14 F w (a := 146) rfl rtb_131 rdX12_goesOn_19 (fun H locs w => ?_)
  refine lv_aload_n hx hb rdX12_goesOn_22 rfl (lv_at hl 2 rfl) ?_
  refine f_12_14 F w (a := 146) rfl rtb_131 rdX12_goesOn_23 ?_
  refine r_val (v := (zI (((sk T tn E) : Nat) : Int))) (st_at) ?_
  refine lv_iload_n hx hb rdX12_goesOn_26 rfl (lv_at hl 0 rfl) ?_
  refine z_icmp_ne (tgt := 44) hx hb (by omega) (by omega) rdX12_goesOn_27 (by decide) (fun c2 => ?_) (fun c2 => ?_)
  · refine lv_iconst (v := zI 0) hx hb rdX12_goesOn_44 rfl ?_
    refine lv_istore_n (lv' := [(3, .int (zI 0)), (2, .int (zI (E : Int))), (1, .int (zI (wa : Int))), (0, .ref (B + 146))]) hx hb rdX12_goesOn_45 rfl hl (by decide) rfl (fun ls hl => ?_)
    refine lv_aload_n hx hb rdX12_goesOn_46 rfl (lv_at hl 3 rfl) ?_
    refine x_Vi F w (As := []) (rest := []) (a := 146) (kd_lt (a := 146) (show kd 146 = (12, 0, 0) from rfl) (by decide)) (sh_12 rfl _ _) rfl (t_here hT (isTr.o hTr1 (Or.inr (by decide)) (by decide)) (A := (sk T tn E)) ((st_ne (Or.inr (by omega))).trans hk9) (by omega)) rgv_X12_175 rhv_X12_here ⟨(Nat.le_of_ble_eq_true rfl), (Nat.le_of_ble_eq_true rfl)⟩ hl.1 rfl (Nat.le_of_ble_eq_true rfl) ⟨Nat.zero_le _, Nat.zero_le _⟩ rdX12_goesOn_47 (fun H locs w => ?_)
    have hg2 := sg_rg hT (((sk T tn E) : Nat) : Int)
    have hh2 := sg_c (T := T) (N := tn) (sk T tn E)
    refine lv_istore (lv' := [(4, .int (zI (sg T tn (((sk T tn E) : Nat) : Int)))), (3, .int (zI 0)), (2, .int (zI (E : Int))), (1, .int (zI (wa : Int))), (0, .ref (B + 146))]) hx hb rdX12_goesOn_50 hl (by decide) rfl (fun ls hl => ?_)
    refine lv_aload_n hx hb rdX12_goesOn_52 rfl (lv_at hl 4 rfl) ?_
    refine lv_bipush (v := zI 29) hx hb rdX12_goesOn_53 (by decide) ?_
    refine u_12_15 F w (a := 146) rfl rtb_132 rdX12_goesOn_55 (fun H locs w => ?_)
    refine lv_iload hx hb rdX12_goesOn_58 (lv_at hl 0 rfl) ?_
    refine lv_iconst (v := zI (-1)) hx hb rdX12_goesOn_60 rfl ?_
    refine z_icmp_ne (tgt := 72) hx hb (by omega) (by omega) rdX12_goesOn_61 (by decide) (fun c4 => ?_) (fun c4 => ?_)
    · refine lv_iload hx hb rdX12_goesOn_72 (lv_at hl 0 rfl) ?_
      refine lv_bipush (v := zI 97) hx hb rdX12_goesOn_74 (by decide) ?_
      refine lv_bipush (v := zI 122) hx hb rdX12_goesOn_76 (by decide) ?_
      refine k_Si F w (As := [.int (zI (sg T tn (((sk T tn E) : Nat) : Int))), .int (zI 97), .int (zI 122)]) (rest := []) (t_in (v := (sg T tn (((sk T tn E) : Nat) : Int))) (a := 97) (b := 122) (by omega) (by omega) (by omega)) rgs_X12_55 rhs_X12_in ⟨(Nat.le_of_ble_eq_true rfl), (Nat.le_of_ble_eq_true rfl)⟩ hl.1 rfl (Nat.le_of_ble_eq_true rfl) ⟨Nat.zero_le _, Nat.zero_le _⟩ rdX12_goesOn_78 (fun r Ma6 H locs hp w => ?_)
      rcases hp with ⟨⟨hb5, rfl⟩ | ⟨hb5, rfl⟩, hMe⟩
      · rw [hMe] at w
        refine z_if_eq (tgt := 143) hx hb (by omega) rdX12_goesOn_81 (by decide) (fun c7 => False.elim (by omega)) (fun c7 => ?_)
        refine lp_X12_goesOn (gl := 0) F (Nat.le_of_ble_eq_true rfl) (Nat.le_of_ble_eq_true rfl) hT hE (fun k Nm H locs ls x0 x1 x2 x3 x4 x5 x6 w hl => ?_) tn (sk T tn E) (st (st Ma1 146 14 (zI (((sk T tn E) : Nat) : Int))) 146 15 (zI 29)) (by omega) (by omega) rfl ((st_ne (Or.inr (by omega))).trans ((st_ne (Or.inr (by omega))).trans hk9)) (isTr.o (isTr.o hTr1 (Or.inr (by decide)) (by decide)) (Or.inr (by decide)) (by decide)) (isWd.fr (isWd.fr hWd1 (st_o (by decide))) (st_o (by decide))) ((st_ne (Or.inr (by omega))).trans st_at) (FrG.to (FrG.to (Fr9.g hB9) (by decide)) (by decide)) (by omega) _ _ ls w (lv_sub hl [4, 1] rfl)
        refine lv_aload_n hx hb rdX12_goesOn_111 rfl (lv_at hl 0 rfl) ?_
        refine lv_iload_n hx hb rdX12_goesOn_112 rfl (lv_at hl 1 rfl) ?_
        refine z_if_eq (tgt := 120) hx hb (by omega) rdX12_goesOn_113 (by decide) (fun c8 => ?_) (fun c8 => False.elim (by omega))
        refine lv_iconst (v := zI 1) hx hb rdX12_goesOn_120 rfl ?_
        refine u_12_13 F w (a := 146) rfl rtb_127 rdX12_goesOn_121 (fun H locs w => ?_)
        refine lv_aload_n hx hb rdX12_goesOn_124 rfl (lv_at hl 0 rfl) ?_
        refine lv_aload_n hx hb rdX12_goesOn_125 rfl (lv_at hl 0 rfl) ?_
        refine lv_aload_n hx hb rdX12_goesOn_126 rfl (lv_at hl 0 rfl) ?_
        refine f_12_14 F w (a := 146) rfl rtb_131 rdX12_goesOn_127 ?_
        refine r_val (v := (zI (((sk T tn E) : Nat) : Int))) ((st_ne (Or.inr (by omega))).trans x4) ?_
        refine lv_aload_n hx hb rdX12_goesOn_130 rfl (lv_at hl 0 rfl) ?_
        refine f_12_9 F w (a := 146) rfl rtb_120 rdX12_goesOn_131 ?_
        refine r_val (v := (zI (k : Int))) ((st_ne (Or.inr (by omega))).trans x1) ?_
        refine x_Vi F w (As := [.int (zI (((sk T tn E) : Nat) : Int)), .int (zI (k : Int))]) (rest := [.ref (B + 146)]) (a := 146) (kd_lt (a := 146) (show kd 146 = (12, 0, 0) from rfl) (by decide)) (sh_12 rfl _ _) rfl (t_wordAt hT (isTr.o x2 (Or.inr (by decide)) (by decide)) (isWd.fr x3 (st_o (by decide))) (s9 := (sk T tn E)) (e9 := k) (by omega) (by omega)) rgv_X12_213 rhv_X12_wordAt ⟨(Nat.le_of_ble_eq_true rfl), (Nat.le_of_ble_eq_true rfl)⟩ hl.1 rfl (Nat.le_of_ble_eq_true rfl) ⟨Nat.zero_le _, Nat.zero_le _⟩ rdX12_goesOn_134 (fun H locs w => ?_)
        have hsw : WDS.idxOf (pl T (sk T tn E) k) ≤ 29 := List.idxOf_le_length (l := WDS)
        refine u_12_15 F w (a := 146) rfl rtb_132 rdX12_goesOn_137 (fun H locs w => ?_)
        refine lv_goto (tgt := 198) hx hb rdX12_goesOn_140 (by decide) ?_
        have hgg : (0 : Nat) = 1 ↔ (sk T tn E = E ∧ (0 < E ∧ nbl (T (E - 1)))) := ⟨fun q => absurd q (by decide), fun q => by have q1 := q.1; have q2 := hgl.mpr q.2; omega⟩
        have hgo := go_l (gl := 0) hE (by omega) (by omega) hgg (by decide)
        exact e_v F w hr hlocks ⟨⟨hE, (st_ne (Or.inr (by omega))).trans ((st_ne (Or.inr (by omega))).trans x4), ((st_ne (Or.inr (by omega))).trans ((st_ne (Or.inr (by omega))).trans x1)).trans (by rw [hgo.2, x0]), ((st_ne (Or.inr (by omega))).trans st_at).trans (by rw [hgo.1.trans (if_neg (by decide))]; rfl), (st_at).trans (by unfold sp; rw [hgo.2, x0]), fun q => absurd ((hgo.1.trans (if_neg (by decide))).symm.trans q) (by decide)⟩, (FrG.to (FrG.to x5 (by decide)) (by decide))⟩ rdX12_goesOn_198
      · rw [hMe] at w
        refine z_if_eq (tgt := 143) hx hb (by omega) rdX12_goesOn_81 (by decide) (fun c10 => ?_) (fun c10 => False.elim (by omega))
        refine lv_aload_n hx hb rdX12_goesOn_143 rfl (lv_at hl 4 rfl) ?_
        refine lv_dup hx hb rdX12_goesOn_144 rfl ?_
        refine f_12_9 F w (a := 146) rfl rtb_120 rdX12_goesOn_145 ?_
        refine r_val (v := (zI (((sk T tn E) : Nat) : Int))) ((st_ne (Or.inr (by omega))).trans ((st_ne (Or.inr (by omega))).trans hk9)) ?_
        refine lv_iconst (v := zI 1) hx hb rdX12_goesOn_148 rfl ?_
        refine z_iadd (z := ((((sk T tn E) + 1) : Nat) : Int)) hx hb rdX12_goesOn_149 (by omega) ?_
        refine u_12_9 F w (a := 146) rfl rtb_120 rdX12_goesOn_150 (fun H locs w => ?_)
        refine lv_aload_n hx hb rdX12_goesOn_153 rfl (lv_at hl 4 rfl) ?_
        refine lv_iload hx hb rdX12_goesOn_154 (lv_at hl 0 rfl) ?_
        refine k_Si F w (As := [.int (zI (sg T tn (((sk T tn E) : Nat) : Int)))]) (rest := [.ref (B + 146)]) (t_isDigit (z := (sg T tn (((sk T tn E) : Nat) : Int))) (by omega)) rgs_X12_182 rhs_X12_isDigit ⟨(Nat.le_of_ble_eq_true rfl), (Nat.le_of_ble_eq_true rfl)⟩ hl.1 rfl (Nat.le_of_ble_eq_true rfl) ⟨Nat.zero_le _, Nat.zero_le _⟩ rdX12_goesOn_156 (fun r Ma12 H locs hp w => ?_)
        rcases hp with ⟨⟨hb11, rfl⟩ | ⟨hb11, rfl⟩, hMe⟩
        · rw [hMe] at w
          refine z_if_eq (tgt := 174) hx hb (by omega) rdX12_goesOn_159 (by decide) (fun c13 => False.elim (by omega)) (fun c13 => ?_)
          refine lv_iload_n hx hb rdX12_goesOn_162 rfl (lv_at hl 1 rfl) ?_
          refine z_if_eq (tgt := 170) hx hb (by omega) rdX12_goesOn_163 (by decide) (fun c14 => ?_) (fun c14 => False.elim (by omega))
          refine lv_iconst (v := zI 2) hx hb rdX12_goesOn_170 rfl ?_
          refine lv_goto (tgt := 186) hx hb rdX12_goesOn_171 (by decide) ?_
          refine u_12_13 F w (a := 146) rfl rtb_127 rdX12_goesOn_186 (fun H locs w => ?_)
          refine lv_aload_n hx hb rdX12_goesOn_189 rfl (lv_at hl 4 rfl) ?_
          refine lv_iload hx hb rdX12_goesOn_190 (lv_at hl 0 rfl) ?_
          refine lv_bipush (v := zI 48) hx hb rdX12_goesOn_192 (by decide) ?_
          refine z_isub (z := ((sg T tn (((sk T tn E) : Nat) : Int)) - 48)) hx hb rdX12_goesOn_194 (by omega) ?_
          refine u_12_11 F w (a := 146) rfl rtb_138 rdX12_goesOn_195 (fun H locs w => ?_)
          have hgg : (0 : Nat) = 1 ↔ (sk T tn E = E ∧ (0 < E ∧ nbl (T (E - 1)))) := ⟨fun q => absurd q (by decide), fun q => by have q1 := q.1; have q2 := hgl.mpr q.2; omega⟩
          have hgo := go_d (gl := 0) hE (by omega) (by omega) hgg (by decide)
          exact e_v F w hr hlocks ⟨⟨hE, (st_ne (Or.inr (by omega))).trans ((st_ne (Or.inr (by omega))).trans ((st_ne (Or.inr (by omega))).trans ((st_ne (Or.inr (by omega))).trans st_at))), ((st_ne (Or.inr (by omega))).trans ((st_ne (Or.inr (by omega))).trans st_at)).trans (by rw [hgo.2.1]), ((st_ne (Or.inr (by omega))).trans st_at).trans (by rw [hgo.1.trans (if_neg (by decide))]; rfl), ((st_ne (Or.inr (by omega))).trans ((st_ne (Or.inr (by omega))).trans ((st_ne (Or.inr (by omega))).trans st_at))).trans (by rw [hgo.2.2]; rfl), fun _ => (st_at).trans (congrArg zI (by omega))⟩, (FrG.to (FrG.to (FrG.to (FrG.to (FrG.to (Fr9.g hB9) (by decide)) (by decide)) (by decide)) (by decide)) (by decide))⟩ rdX12_goesOn_198
        · rw [hMe] at w
          refine z_if_eq (tgt := 174) hx hb (by omega) rdX12_goesOn_159 (by decide) (fun c15 => ?_) (fun c15 => False.elim (by omega))
          refine lv_iload hx hb rdX12_goesOn_174 (lv_at hl 0 rfl) ?_
          refine lv_bipush (v := zI 59) hx hb rdX12_goesOn_176 (by decide) ?_
          refine z_icmp_ne (tgt := 185) hx hb (by omega) (by omega) rdX12_goesOn_178 (by decide) (fun c16 => ?_) (fun c16 => ?_)
          · refine lv_iconst (v := zI 4) hx hb rdX12_goesOn_185 rfl ?_
            refine u_12_13 F w (a := 146) rfl rtb_127 rdX12_goesOn_186 (fun H locs w => ?_)
            refine lv_aload_n hx hb rdX12_goesOn_189 rfl (lv_at hl 4 rfl) ?_
            refine lv_iload hx hb rdX12_goesOn_190 (lv_at hl 0 rfl) ?_
            refine lv_bipush (v := zI 48) hx hb rdX12_goesOn_192 (by decide) ?_
            refine z_isub (z := ((sg T tn (((sk T tn E) : Nat) : Int)) - 48)) hx hb rdX12_goesOn_194 (by omega) ?_
            refine u_12_11 F w (a := 146) rfl rtb_138 rdX12_goesOn_195 (fun H locs w => ?_)
            have hgg : (0 : Nat) = 1 ↔ (sk T tn E = E ∧ (0 < E ∧ nbl (T (E - 1)))) := ⟨fun q => absurd q (by decide), fun q => by have q1 := q.1; have q2 := hgl.mpr q.2; omega⟩
            have hgo := go_o hE (show sk T tn E < tn by omega) (by omega) (by omega)
            exact e_v F w hr hlocks ⟨⟨hE, (st_ne (Or.inr (by omega))).trans ((st_ne (Or.inr (by omega))).trans ((st_ne (Or.inr (by omega))).trans ((st_ne (Or.inr (by omega))).trans st_at))), ((st_ne (Or.inr (by omega))).trans ((st_ne (Or.inr (by omega))).trans st_at)).trans (by rw [hgo.2.1]), ((st_ne (Or.inr (by omega))).trans st_at).trans (by rw [hgo.1.trans (if_neg (by omega))]; rfl), ((st_ne (Or.inr (by omega))).trans ((st_ne (Or.inr (by omega))).trans ((st_ne (Or.inr (by omega))).trans st_at))).trans (by rw [hgo.2.2]; rfl), fun q => absurd ((hgo.1.trans (if_neg (by omega))).symm.trans q) (by decide)⟩, (FrG.to (FrG.to (FrG.to (FrG.to (FrG.to (Fr9.g hB9) (by decide)) (by decide)) (by decide)) (by decide)) (by decide))⟩ rdX12_goesOn_198
          · refine lv_iconst (v := zI 3) hx hb rdX12_goesOn_181 rfl ?_
            refine lv_goto (tgt := 186) hx hb rdX12_goesOn_182 (by decide) ?_
            refine u_12_13 F w (a := 146) rfl rtb_127 rdX12_goesOn_186 (fun H locs w => ?_)
            refine lv_aload_n hx hb rdX12_goesOn_189 rfl (lv_at hl 4 rfl) ?_
            refine lv_iload hx hb rdX12_goesOn_190 (lv_at hl 0 rfl) ?_
            refine lv_bipush (v := zI 48) hx hb rdX12_goesOn_192 (by decide) ?_
            refine z_isub (z := ((sg T tn (((sk T tn E) : Nat) : Int)) - 48)) hx hb rdX12_goesOn_194 (by omega) ?_
            refine u_12_11 F w (a := 146) rfl rtb_138 rdX12_goesOn_195 (fun H locs w => ?_)
            have hgg : (0 : Nat) = 1 ↔ (sk T tn E = E ∧ (0 < E ∧ nbl (T (E - 1)))) := ⟨fun q => absurd q (by decide), fun q => by have q1 := q.1; have q2 := hgl.mpr q.2; omega⟩
            have hgo := go_o hE (show sk T tn E < tn by omega) (by omega) (by omega)
            exact e_v F w hr hlocks ⟨⟨hE, (st_ne (Or.inr (by omega))).trans ((st_ne (Or.inr (by omega))).trans ((st_ne (Or.inr (by omega))).trans ((st_ne (Or.inr (by omega))).trans st_at))), ((st_ne (Or.inr (by omega))).trans ((st_ne (Or.inr (by omega))).trans st_at)).trans (by rw [hgo.2.1]), ((st_ne (Or.inr (by omega))).trans st_at).trans (by rw [hgo.1.trans (if_pos (by omega))]; rfl), ((st_ne (Or.inr (by omega))).trans ((st_ne (Or.inr (by omega))).trans ((st_ne (Or.inr (by omega))).trans st_at))).trans (by rw [hgo.2.2]; rfl), fun q => absurd ((hgo.1.trans (if_pos (by omega))).symm.trans q) (by decide)⟩, (FrG.to (FrG.to (FrG.to (FrG.to (FrG.to (Fr9.g hB9) (by decide)) (by decide)) (by decide)) (by decide)) (by decide))⟩ rdX12_goesOn_198
    · refine lv_aload_n hx hb rdX12_goesOn_64 rfl (lv_at hl 4 rfl) ?_
      refine lv_iconst (v := zI 0) hx hb rdX12_goesOn_65 rfl ?_
      refine u_12_13 F w (a := 146) rfl rtb_127 rdX12_goesOn_66 (fun H locs w => ?_)
      refine lv_goto (tgt := 198) hx hb rdX12_goesOn_69 (by decide) ?_
      have hgg : (0 : Nat) = 1 ↔ (sk T tn E = E ∧ (0 < E ∧ nbl (T (E - 1)))) := ⟨fun q => absurd q (by decide), fun q => by have q1 := q.1; have q2 := hgl.mpr q.2; omega⟩
      have hgo := go_e hE (show tn ≤ sk T tn E by omega)
      exact e_v F w hr hlocks ⟨⟨hE, (st_ne (Or.inr (by omega))).trans ((st_ne (Or.inr (by omega))).trans st_at), ((st_ne (Or.inr (by omega))).trans ((st_ne (Or.inr (by omega))).trans ((st_ne (Or.inr (by omega))).trans hk9))).trans (by rw [hgo.2.2]), (st_at).trans (by rw [hgo.1]; rfl), ((st_ne (Or.inr (by omega))).trans st_at).trans (by rw [hgo.2.1]; rfl), fun q => absurd (hgo.1.symm.trans q) (by decide)⟩, (FrG.to (FrG.to (FrG.to (Fr9.g hB9) (by decide)) (by decide)) (by decide))⟩ rdX12_goesOn_198
  · refine lv_iload_n hx hb rdX12_goesOn_30 rfl (lv_at hl 1 rfl) ?_
    refine lv_iconst (v := zI 1) hx hb rdX12_goesOn_31 rfl ?_
    refine z_icmp_eq (tgt := 40) hx hb (by omega) (by omega) rdX12_goesOn_32 (by decide) (fun c17 => ?_) (fun c17 => ?_)
    · refine lv_iconst (v := zI 1) hx hb rdX12_goesOn_40 rfl ?_
      refine lv_goto (tgt := 45) hx hb rdX12_goesOn_41 (by decide) ?_
      refine lv_istore_n (lv' := [(3, .int (zI 1)), (2, .int (zI (E : Int))), (1, .int (zI (wa : Int))), (0, .ref (B + 146))]) hx hb rdX12_goesOn_45 rfl hl (by decide) rfl (fun ls hl => ?_)
      refine lv_aload_n hx hb rdX12_goesOn_46 rfl (lv_at hl 3 rfl) ?_
      refine x_Vi F w (As := []) (rest := []) (a := 146) (kd_lt (a := 146) (show kd 146 = (12, 0, 0) from rfl) (by decide)) (sh_12 rfl _ _) rfl (t_here hT (isTr.o hTr1 (Or.inr (by decide)) (by decide)) (A := (sk T tn E)) ((st_ne (Or.inr (by omega))).trans hk9) (by omega)) rgv_X12_175 rhv_X12_here ⟨(Nat.le_of_ble_eq_true rfl), (Nat.le_of_ble_eq_true rfl)⟩ hl.1 rfl (Nat.le_of_ble_eq_true rfl) ⟨Nat.zero_le _, Nat.zero_le _⟩ rdX12_goesOn_47 (fun H locs w => ?_)
      have hg17 := sg_rg hT (((sk T tn E) : Nat) : Int)
      have hh17 := sg_c (T := T) (N := tn) (sk T tn E)
      refine lv_istore (lv' := [(4, .int (zI (sg T tn (((sk T tn E) : Nat) : Int)))), (3, .int (zI 1)), (2, .int (zI (E : Int))), (1, .int (zI (wa : Int))), (0, .ref (B + 146))]) hx hb rdX12_goesOn_50 hl (by decide) rfl (fun ls hl => ?_)
      refine lv_aload_n hx hb rdX12_goesOn_52 rfl (lv_at hl 4 rfl) ?_
      refine lv_bipush (v := zI 29) hx hb rdX12_goesOn_53 (by decide) ?_
      refine u_12_15 F w (a := 146) rfl rtb_132 rdX12_goesOn_55 (fun H locs w => ?_)
      refine lv_iload hx hb rdX12_goesOn_58 (lv_at hl 0 rfl) ?_
      refine lv_iconst (v := zI (-1)) hx hb rdX12_goesOn_60 rfl ?_
      refine z_icmp_ne (tgt := 72) hx hb (by omega) (by omega) rdX12_goesOn_61 (by decide) (fun c19 => ?_) (fun c19 => ?_)
      · refine lv_iload hx hb rdX12_goesOn_72 (lv_at hl 0 rfl) ?_
        refine lv_bipush (v := zI 97) hx hb rdX12_goesOn_74 (by decide) ?_
        refine lv_bipush (v := zI 122) hx hb rdX12_goesOn_76 (by decide) ?_
        refine k_Si F w (As := [.int (zI (sg T tn (((sk T tn E) : Nat) : Int))), .int (zI 97), .int (zI 122)]) (rest := []) (t_in (v := (sg T tn (((sk T tn E) : Nat) : Int))) (a := 97) (b := 122) (by omega) (by omega) (by omega)) rgs_X12_55 rhs_X12_in ⟨(Nat.le_of_ble_eq_true rfl), (Nat.le_of_ble_eq_true rfl)⟩ hl.1 rfl (Nat.le_of_ble_eq_true rfl) ⟨Nat.zero_le _, Nat.zero_le _⟩ rdX12_goesOn_78 (fun r Ma21 H locs hp w => ?_)
        rcases hp with ⟨⟨hb20, rfl⟩ | ⟨hb20, rfl⟩, hMe⟩
        · rw [hMe] at w
          refine z_if_eq (tgt := 143) hx hb (by omega) rdX12_goesOn_81 (by decide) (fun c22 => False.elim (by omega)) (fun c22 => ?_)
          refine lp_X12_goesOn (gl := 1) F (Nat.le_of_ble_eq_true rfl) (Nat.le_of_ble_eq_true rfl) hT hE (fun k Nm H locs ls x0 x1 x2 x3 x4 x5 x6 w hl => ?_) tn (sk T tn E) (st (st Ma1 146 14 (zI (((sk T tn E) : Nat) : Int))) 146 15 (zI 29)) (by omega) (by omega) rfl ((st_ne (Or.inr (by omega))).trans ((st_ne (Or.inr (by omega))).trans hk9)) (isTr.o (isTr.o hTr1 (Or.inr (by decide)) (by decide)) (Or.inr (by decide)) (by decide)) (isWd.fr (isWd.fr hWd1 (st_o (by decide))) (st_o (by decide))) ((st_ne (Or.inr (by omega))).trans st_at) (FrG.to (FrG.to (Fr9.g hB9) (by decide)) (by decide)) (by omega) _ _ ls w (lv_sub hl [4, 1] rfl)
          refine lv_aload_n hx hb rdX12_goesOn_111 rfl (lv_at hl 0 rfl) ?_
          refine lv_iload_n hx hb rdX12_goesOn_112 rfl (lv_at hl 1 rfl) ?_
          refine z_if_eq (tgt := 120) hx hb (by omega) rdX12_goesOn_113 (by decide) (fun c23 => False.elim (by omega)) (fun c23 => ?_)
          refine lv_iconst (v := zI 4) hx hb rdX12_goesOn_116 rfl ?_
          refine lv_goto (tgt := 121) hx hb rdX12_goesOn_117 (by decide) ?_
          refine u_12_13 F w (a := 146) rfl rtb_127 rdX12_goesOn_121 (fun H locs w => ?_)
          refine lv_aload_n hx hb rdX12_goesOn_124 rfl (lv_at hl 0 rfl) ?_
          refine lv_aload_n hx hb rdX12_goesOn_125 rfl (lv_at hl 0 rfl) ?_
          refine lv_aload_n hx hb rdX12_goesOn_126 rfl (lv_at hl 0 rfl) ?_
          refine f_12_14 F w (a := 146) rfl rtb_131 rdX12_goesOn_127 ?_
          refine r_val (v := (zI (((sk T tn E) : Nat) : Int))) ((st_ne (Or.inr (by omega))).trans x4) ?_
          refine lv_aload_n hx hb rdX12_goesOn_130 rfl (lv_at hl 0 rfl) ?_
          refine f_12_9 F w (a := 146) rfl rtb_120 rdX12_goesOn_131 ?_
          refine r_val (v := (zI (k : Int))) ((st_ne (Or.inr (by omega))).trans x1) ?_
          refine x_Vi F w (As := [.int (zI (((sk T tn E) : Nat) : Int)), .int (zI (k : Int))]) (rest := [.ref (B + 146)]) (a := 146) (kd_lt (a := 146) (show kd 146 = (12, 0, 0) from rfl) (by decide)) (sh_12 rfl _ _) rfl (t_wordAt hT (isTr.o x2 (Or.inr (by decide)) (by decide)) (isWd.fr x3 (st_o (by decide))) (s9 := (sk T tn E)) (e9 := k) (by omega) (by omega)) rgv_X12_213 rhv_X12_wordAt ⟨(Nat.le_of_ble_eq_true rfl), (Nat.le_of_ble_eq_true rfl)⟩ hl.1 rfl (Nat.le_of_ble_eq_true rfl) ⟨Nat.zero_le _, Nat.zero_le _⟩ rdX12_goesOn_134 (fun H locs w => ?_)
          have hsw : WDS.idxOf (pl T (sk T tn E) k) ≤ 29 := List.idxOf_le_length (l := WDS)
          refine u_12_15 F w (a := 146) rfl rtb_132 rdX12_goesOn_137 (fun H locs w => ?_)
          refine lv_goto (tgt := 198) hx hb rdX12_goesOn_140 (by decide) ?_
          have hgg : (1 : Nat) = 1 ↔ (sk T tn E = E ∧ (0 < E ∧ nbl (T (E - 1)))) := ⟨fun _ => ⟨by omega, hgl.mp (by omega)⟩, fun _ => rfl⟩
          have hgo := go_l (gl := 1) hE (by omega) (by omega) hgg (by decide)
          exact e_v F w hr hlocks ⟨⟨hE, (st_ne (Or.inr (by omega))).trans ((st_ne (Or.inr (by omega))).trans x4), ((st_ne (Or.inr (by omega))).trans ((st_ne (Or.inr (by omega))).trans x1)).trans (by rw [hgo.2, x0]), ((st_ne (Or.inr (by omega))).trans st_at).trans (by rw [hgo.1.trans (if_pos rfl)]; rfl), (st_at).trans (by unfold sp; rw [hgo.2, x0]), fun q => absurd ((hgo.1.trans (if_pos rfl)).symm.trans q) (by decide)⟩, (FrG.to (FrG.to x5 (by decide)) (by decide))⟩ rdX12_goesOn_198
        · rw [hMe] at w
          refine z_if_eq (tgt := 143) hx hb (by omega) rdX12_goesOn_81 (by decide) (fun c25 => ?_) (fun c25 => False.elim (by omega))
          refine lv_aload_n hx hb rdX12_goesOn_143 rfl (lv_at hl 4 rfl) ?_
          refine lv_dup hx hb rdX12_goesOn_144 rfl ?_
          refine f_12_9 F w (a := 146) rfl rtb_120 rdX12_goesOn_145 ?_
          refine r_val (v := (zI (((sk T tn E) : Nat) : Int))) ((st_ne (Or.inr (by omega))).trans ((st_ne (Or.inr (by omega))).trans hk9)) ?_
          refine lv_iconst (v := zI 1) hx hb rdX12_goesOn_148 rfl ?_
          refine z_iadd (z := ((((sk T tn E) + 1) : Nat) : Int)) hx hb rdX12_goesOn_149 (by omega) ?_
          refine u_12_9 F w (a := 146) rfl rtb_120 rdX12_goesOn_150 (fun H locs w => ?_)
          refine lv_aload_n hx hb rdX12_goesOn_153 rfl (lv_at hl 4 rfl) ?_
          refine lv_iload hx hb rdX12_goesOn_154 (lv_at hl 0 rfl) ?_
          refine k_Si F w (As := [.int (zI (sg T tn (((sk T tn E) : Nat) : Int)))]) (rest := [.ref (B + 146)]) (t_isDigit (z := (sg T tn (((sk T tn E) : Nat) : Int))) (by omega)) rgs_X12_182 rhs_X12_isDigit ⟨(Nat.le_of_ble_eq_true rfl), (Nat.le_of_ble_eq_true rfl)⟩ hl.1 rfl (Nat.le_of_ble_eq_true rfl) ⟨Nat.zero_le _, Nat.zero_le _⟩ rdX12_goesOn_156 (fun r Ma27 H locs hp w => ?_)
          rcases hp with ⟨⟨hb26, rfl⟩ | ⟨hb26, rfl⟩, hMe⟩
          · rw [hMe] at w
            refine z_if_eq (tgt := 174) hx hb (by omega) rdX12_goesOn_159 (by decide) (fun c28 => False.elim (by omega)) (fun c28 => ?_)
            refine lv_iload_n hx hb rdX12_goesOn_162 rfl (lv_at hl 1 rfl) ?_
            refine z_if_eq (tgt := 170) hx hb (by omega) rdX12_goesOn_163 (by decide) (fun c29 => False.elim (by omega)) (fun c29 => ?_)
            refine lv_iconst (v := zI 4) hx hb rdX12_goesOn_166 rfl ?_
            refine lv_goto (tgt := 186) hx hb rdX12_goesOn_167 (by decide) ?_
            refine u_12_13 F w (a := 146) rfl rtb_127 rdX12_goesOn_186 (fun H locs w => ?_)
            refine lv_aload_n hx hb rdX12_goesOn_189 rfl (lv_at hl 4 rfl) ?_
            refine lv_iload hx hb rdX12_goesOn_190 (lv_at hl 0 rfl) ?_
            refine lv_bipush (v := zI 48) hx hb rdX12_goesOn_192 (by decide) ?_
            refine z_isub (z := ((sg T tn (((sk T tn E) : Nat) : Int)) - 48)) hx hb rdX12_goesOn_194 (by omega) ?_
            refine u_12_11 F w (a := 146) rfl rtb_138 rdX12_goesOn_195 (fun H locs w => ?_)
            have hgg : (1 : Nat) = 1 ↔ (sk T tn E = E ∧ (0 < E ∧ nbl (T (E - 1)))) := ⟨fun _ => ⟨by omega, hgl.mp (by omega)⟩, fun _ => rfl⟩
            have hgo := go_d (gl := 1) hE (by omega) (by omega) hgg (by decide)
            exact e_v F w hr hlocks ⟨⟨hE, (st_ne (Or.inr (by omega))).trans ((st_ne (Or.inr (by omega))).trans ((st_ne (Or.inr (by omega))).trans ((st_ne (Or.inr (by omega))).trans st_at))), ((st_ne (Or.inr (by omega))).trans ((st_ne (Or.inr (by omega))).trans st_at)).trans (by rw [hgo.2.1]), ((st_ne (Or.inr (by omega))).trans st_at).trans (by rw [hgo.1.trans (if_pos rfl)]; rfl), ((st_ne (Or.inr (by omega))).trans ((st_ne (Or.inr (by omega))).trans ((st_ne (Or.inr (by omega))).trans st_at))).trans (by rw [hgo.2.2]; rfl), fun _ => (st_at).trans (congrArg zI (by omega))⟩, (FrG.to (FrG.to (FrG.to (FrG.to (FrG.to (Fr9.g hB9) (by decide)) (by decide)) (by decide)) (by decide)) (by decide))⟩ rdX12_goesOn_198
          · rw [hMe] at w
            refine z_if_eq (tgt := 174) hx hb (by omega) rdX12_goesOn_159 (by decide) (fun c30 => ?_) (fun c30 => False.elim (by omega))
            refine lv_iload hx hb rdX12_goesOn_174 (lv_at hl 0 rfl) ?_
            refine lv_bipush (v := zI 59) hx hb rdX12_goesOn_176 (by decide) ?_
            refine z_icmp_ne (tgt := 185) hx hb (by omega) (by omega) rdX12_goesOn_178 (by decide) (fun c31 => ?_) (fun c31 => ?_)
            · refine lv_iconst (v := zI 4) hx hb rdX12_goesOn_185 rfl ?_
              refine u_12_13 F w (a := 146) rfl rtb_127 rdX12_goesOn_186 (fun H locs w => ?_)
              refine lv_aload_n hx hb rdX12_goesOn_189 rfl (lv_at hl 4 rfl) ?_
              refine lv_iload hx hb rdX12_goesOn_190 (lv_at hl 0 rfl) ?_
              refine lv_bipush (v := zI 48) hx hb rdX12_goesOn_192 (by decide) ?_
              refine z_isub (z := ((sg T tn (((sk T tn E) : Nat) : Int)) - 48)) hx hb rdX12_goesOn_194 (by omega) ?_
              refine u_12_11 F w (a := 146) rfl rtb_138 rdX12_goesOn_195 (fun H locs w => ?_)
              have hgg : (1 : Nat) = 1 ↔ (sk T tn E = E ∧ (0 < E ∧ nbl (T (E - 1)))) := ⟨fun _ => ⟨by omega, hgl.mp (by omega)⟩, fun _ => rfl⟩
              have hgo := go_o hE (show sk T tn E < tn by omega) (by omega) (by omega)
              exact e_v F w hr hlocks ⟨⟨hE, (st_ne (Or.inr (by omega))).trans ((st_ne (Or.inr (by omega))).trans ((st_ne (Or.inr (by omega))).trans ((st_ne (Or.inr (by omega))).trans st_at))), ((st_ne (Or.inr (by omega))).trans ((st_ne (Or.inr (by omega))).trans st_at)).trans (by rw [hgo.2.1]), ((st_ne (Or.inr (by omega))).trans st_at).trans (by rw [hgo.1.trans (if_neg (by omega))]; rfl), ((st_ne (Or.inr (by omega))).trans ((st_ne (Or.inr (by omega))).trans ((st_ne (Or.inr (by omega))).trans st_at))).trans (by rw [hgo.2.2]; rfl), fun q => absurd ((hgo.1.trans (if_neg (by omega))).symm.trans q) (by decide)⟩, (FrG.to (FrG.to (FrG.to (FrG.to (FrG.to (Fr9.g hB9) (by decide)) (by decide)) (by decide)) (by decide)) (by decide))⟩ rdX12_goesOn_198
            · refine lv_iconst (v := zI 3) hx hb rdX12_goesOn_181 rfl ?_
              refine lv_goto (tgt := 186) hx hb rdX12_goesOn_182 (by decide) ?_
              refine u_12_13 F w (a := 146) rfl rtb_127 rdX12_goesOn_186 (fun H locs w => ?_)
              refine lv_aload_n hx hb rdX12_goesOn_189 rfl (lv_at hl 4 rfl) ?_
              refine lv_iload hx hb rdX12_goesOn_190 (lv_at hl 0 rfl) ?_
              refine lv_bipush (v := zI 48) hx hb rdX12_goesOn_192 (by decide) ?_
              refine z_isub (z := ((sg T tn (((sk T tn E) : Nat) : Int)) - 48)) hx hb rdX12_goesOn_194 (by omega) ?_
              refine u_12_11 F w (a := 146) rfl rtb_138 rdX12_goesOn_195 (fun H locs w => ?_)
              have hgg : (1 : Nat) = 1 ↔ (sk T tn E = E ∧ (0 < E ∧ nbl (T (E - 1)))) := ⟨fun _ => ⟨by omega, hgl.mp (by omega)⟩, fun _ => rfl⟩
              have hgo := go_o hE (show sk T tn E < tn by omega) (by omega) (by omega)
              exact e_v F w hr hlocks ⟨⟨hE, (st_ne (Or.inr (by omega))).trans ((st_ne (Or.inr (by omega))).trans ((st_ne (Or.inr (by omega))).trans ((st_ne (Or.inr (by omega))).trans st_at))), ((st_ne (Or.inr (by omega))).trans ((st_ne (Or.inr (by omega))).trans st_at)).trans (by rw [hgo.2.1]), ((st_ne (Or.inr (by omega))).trans st_at).trans (by rw [hgo.1.trans (if_pos (by omega))]; rfl), ((st_ne (Or.inr (by omega))).trans ((st_ne (Or.inr (by omega))).trans ((st_ne (Or.inr (by omega))).trans st_at))).trans (by rw [hgo.2.2]; rfl), fun q => absurd ((hgo.1.trans (if_pos (by omega))).symm.trans q) (by decide)⟩, (FrG.to (FrG.to (FrG.to (FrG.to (FrG.to (Fr9.g hB9) (by decide)) (by decide)) (by decide)) (by decide)) (by decide))⟩ rdX12_goesOn_198
      · refine lv_aload_n hx hb rdX12_goesOn_64 rfl (lv_at hl 4 rfl) ?_
        refine lv_iconst (v := zI 0) hx hb rdX12_goesOn_65 rfl ?_
        refine u_12_13 F w (a := 146) rfl rtb_127 rdX12_goesOn_66 (fun H locs w => ?_)
        refine lv_goto (tgt := 198) hx hb rdX12_goesOn_69 (by decide) ?_
        have hgg : (1 : Nat) = 1 ↔ (sk T tn E = E ∧ (0 < E ∧ nbl (T (E - 1)))) := ⟨fun _ => ⟨by omega, hgl.mp (by omega)⟩, fun _ => rfl⟩
        have hgo := go_e hE (show tn ≤ sk T tn E by omega)
        exact e_v F w hr hlocks ⟨⟨hE, (st_ne (Or.inr (by omega))).trans ((st_ne (Or.inr (by omega))).trans st_at), ((st_ne (Or.inr (by omega))).trans ((st_ne (Or.inr (by omega))).trans ((st_ne (Or.inr (by omega))).trans hk9))).trans (by rw [hgo.2.2]), (st_at).trans (by rw [hgo.1]; rfl), ((st_ne (Or.inr (by omega))).trans st_at).trans (by rw [hgo.2.1]; rfl), fun q => absurd (hgo.1.symm.trans q) (by decide)⟩, (FrG.to (FrG.to (FrG.to (Fr9.g hB9) (by decide)) (by decide)) (by decide))⟩ rdX12_goesOn_198
    · refine lv_iload_n hx hb rdX12_goesOn_35 rfl (lv_at hl 1 rfl) ?_
      refine lv_iconst (v := zI 2) hx hb rdX12_goesOn_36 rfl ?_
      refine z_icmp_ne (tgt := 44) hx hb (by omega) (by omega) rdX12_goesOn_37 (by decide) (fun c32 => ?_) (fun c32 => ?_)
      · refine lv_iconst (v := zI 0) hx hb rdX12_goesOn_44 rfl ?_
        refine lv_istore_n (lv' := [(3, .int (zI 0)), (2, .int (zI (E : Int))), (1, .int (zI (wa : Int))), (0, .ref (B + 146))]) hx hb rdX12_goesOn_45 rfl hl (by decide) rfl (fun ls hl => ?_)
        refine lv_aload_n hx hb rdX12_goesOn_46 rfl (lv_at hl 3 rfl) ?_
        refine x_Vi F w (As := []) (rest := []) (a := 146) (kd_lt (a := 146) (show kd 146 = (12, 0, 0) from rfl) (by decide)) (sh_12 rfl _ _) rfl (t_here hT (isTr.o hTr1 (Or.inr (by decide)) (by decide)) (A := (sk T tn E)) ((st_ne (Or.inr (by omega))).trans hk9) (by omega)) rgv_X12_175 rhv_X12_here ⟨(Nat.le_of_ble_eq_true rfl), (Nat.le_of_ble_eq_true rfl)⟩ hl.1 rfl (Nat.le_of_ble_eq_true rfl) ⟨Nat.zero_le _, Nat.zero_le _⟩ rdX12_goesOn_47 (fun H locs w => ?_)
        have hg32 := sg_rg hT (((sk T tn E) : Nat) : Int)
        have hh32 := sg_c (T := T) (N := tn) (sk T tn E)
        refine lv_istore (lv' := [(4, .int (zI (sg T tn (((sk T tn E) : Nat) : Int)))), (3, .int (zI 0)), (2, .int (zI (E : Int))), (1, .int (zI (wa : Int))), (0, .ref (B + 146))]) hx hb rdX12_goesOn_50 hl (by decide) rfl (fun ls hl => ?_)
        refine lv_aload_n hx hb rdX12_goesOn_52 rfl (lv_at hl 4 rfl) ?_
        refine lv_bipush (v := zI 29) hx hb rdX12_goesOn_53 (by decide) ?_
        refine u_12_15 F w (a := 146) rfl rtb_132 rdX12_goesOn_55 (fun H locs w => ?_)
        refine lv_iload hx hb rdX12_goesOn_58 (lv_at hl 0 rfl) ?_
        refine lv_iconst (v := zI (-1)) hx hb rdX12_goesOn_60 rfl ?_
        refine z_icmp_ne (tgt := 72) hx hb (by omega) (by omega) rdX12_goesOn_61 (by decide) (fun c34 => ?_) (fun c34 => ?_)
        · refine lv_iload hx hb rdX12_goesOn_72 (lv_at hl 0 rfl) ?_
          refine lv_bipush (v := zI 97) hx hb rdX12_goesOn_74 (by decide) ?_
          refine lv_bipush (v := zI 122) hx hb rdX12_goesOn_76 (by decide) ?_
          refine k_Si F w (As := [.int (zI (sg T tn (((sk T tn E) : Nat) : Int))), .int (zI 97), .int (zI 122)]) (rest := []) (t_in (v := (sg T tn (((sk T tn E) : Nat) : Int))) (a := 97) (b := 122) (by omega) (by omega) (by omega)) rgs_X12_55 rhs_X12_in ⟨(Nat.le_of_ble_eq_true rfl), (Nat.le_of_ble_eq_true rfl)⟩ hl.1 rfl (Nat.le_of_ble_eq_true rfl) ⟨Nat.zero_le _, Nat.zero_le _⟩ rdX12_goesOn_78 (fun r Ma36 H locs hp w => ?_)
          rcases hp with ⟨⟨hb35, rfl⟩ | ⟨hb35, rfl⟩, hMe⟩
          · rw [hMe] at w
            refine z_if_eq (tgt := 143) hx hb (by omega) rdX12_goesOn_81 (by decide) (fun c37 => False.elim (by omega)) (fun c37 => ?_)
            refine lp_X12_goesOn (gl := 0) F (Nat.le_of_ble_eq_true rfl) (Nat.le_of_ble_eq_true rfl) hT hE (fun k Nm H locs ls x0 x1 x2 x3 x4 x5 x6 w hl => ?_) tn (sk T tn E) (st (st Ma1 146 14 (zI (((sk T tn E) : Nat) : Int))) 146 15 (zI 29)) (by omega) (by omega) rfl ((st_ne (Or.inr (by omega))).trans ((st_ne (Or.inr (by omega))).trans hk9)) (isTr.o (isTr.o hTr1 (Or.inr (by decide)) (by decide)) (Or.inr (by decide)) (by decide)) (isWd.fr (isWd.fr hWd1 (st_o (by decide))) (st_o (by decide))) ((st_ne (Or.inr (by omega))).trans st_at) (FrG.to (FrG.to (Fr9.g hB9) (by decide)) (by decide)) (by omega) _ _ ls w (lv_sub hl [4, 1] rfl)
            refine lv_aload_n hx hb rdX12_goesOn_111 rfl (lv_at hl 0 rfl) ?_
            refine lv_iload_n hx hb rdX12_goesOn_112 rfl (lv_at hl 1 rfl) ?_
            refine z_if_eq (tgt := 120) hx hb (by omega) rdX12_goesOn_113 (by decide) (fun c38 => ?_) (fun c38 => False.elim (by omega))
            refine lv_iconst (v := zI 1) hx hb rdX12_goesOn_120 rfl ?_
            refine u_12_13 F w (a := 146) rfl rtb_127 rdX12_goesOn_121 (fun H locs w => ?_)
            refine lv_aload_n hx hb rdX12_goesOn_124 rfl (lv_at hl 0 rfl) ?_
            refine lv_aload_n hx hb rdX12_goesOn_125 rfl (lv_at hl 0 rfl) ?_
            refine lv_aload_n hx hb rdX12_goesOn_126 rfl (lv_at hl 0 rfl) ?_
            refine f_12_14 F w (a := 146) rfl rtb_131 rdX12_goesOn_127 ?_
            refine r_val (v := (zI (((sk T tn E) : Nat) : Int))) ((st_ne (Or.inr (by omega))).trans x4) ?_
            refine lv_aload_n hx hb rdX12_goesOn_130 rfl (lv_at hl 0 rfl) ?_
            refine f_12_9 F w (a := 146) rfl rtb_120 rdX12_goesOn_131 ?_
            refine r_val (v := (zI (k : Int))) ((st_ne (Or.inr (by omega))).trans x1) ?_
            refine x_Vi F w (As := [.int (zI (((sk T tn E) : Nat) : Int)), .int (zI (k : Int))]) (rest := [.ref (B + 146)]) (a := 146) (kd_lt (a := 146) (show kd 146 = (12, 0, 0) from rfl) (by decide)) (sh_12 rfl _ _) rfl (t_wordAt hT (isTr.o x2 (Or.inr (by decide)) (by decide)) (isWd.fr x3 (st_o (by decide))) (s9 := (sk T tn E)) (e9 := k) (by omega) (by omega)) rgv_X12_213 rhv_X12_wordAt ⟨(Nat.le_of_ble_eq_true rfl), (Nat.le_of_ble_eq_true rfl)⟩ hl.1 rfl (Nat.le_of_ble_eq_true rfl) ⟨Nat.zero_le _, Nat.zero_le _⟩ rdX12_goesOn_134 (fun H locs w => ?_)
            have hsw : WDS.idxOf (pl T (sk T tn E) k) ≤ 29 := List.idxOf_le_length (l := WDS)
            refine u_12_15 F w (a := 146) rfl rtb_132 rdX12_goesOn_137 (fun H locs w => ?_)
            refine lv_goto (tgt := 198) hx hb rdX12_goesOn_140 (by decide) ?_
            have hgg : (0 : Nat) = 1 ↔ (sk T tn E = E ∧ (0 < E ∧ nbl (T (E - 1)))) := ⟨fun q => absurd q (by decide), fun q => by have q1 := q.1; have q2 := hgl.mpr q.2; omega⟩
            have hgo := go_l (gl := 0) hE (by omega) (by omega) hgg (by decide)
            exact e_v F w hr hlocks ⟨⟨hE, (st_ne (Or.inr (by omega))).trans ((st_ne (Or.inr (by omega))).trans x4), ((st_ne (Or.inr (by omega))).trans ((st_ne (Or.inr (by omega))).trans x1)).trans (by rw [hgo.2, x0]), ((st_ne (Or.inr (by omega))).trans st_at).trans (by rw [hgo.1.trans (if_neg (by decide))]; rfl), (st_at).trans (by unfold sp; rw [hgo.2, x0]), fun q => absurd ((hgo.1.trans (if_neg (by decide))).symm.trans q) (by decide)⟩, (FrG.to (FrG.to x5 (by decide)) (by decide))⟩ rdX12_goesOn_198
          · rw [hMe] at w
            refine z_if_eq (tgt := 143) hx hb (by omega) rdX12_goesOn_81 (by decide) (fun c40 => ?_) (fun c40 => False.elim (by omega))
            refine lv_aload_n hx hb rdX12_goesOn_143 rfl (lv_at hl 4 rfl) ?_
            refine lv_dup hx hb rdX12_goesOn_144 rfl ?_
            refine f_12_9 F w (a := 146) rfl rtb_120 rdX12_goesOn_145 ?_
            refine r_val (v := (zI (((sk T tn E) : Nat) : Int))) ((st_ne (Or.inr (by omega))).trans ((st_ne (Or.inr (by omega))).trans hk9)) ?_
            refine lv_iconst (v := zI 1) hx hb rdX12_goesOn_148 rfl ?_
            refine z_iadd (z := ((((sk T tn E) + 1) : Nat) : Int)) hx hb rdX12_goesOn_149 (by omega) ?_
            refine u_12_9 F w (a := 146) rfl rtb_120 rdX12_goesOn_150 (fun H locs w => ?_)
            refine lv_aload_n hx hb rdX12_goesOn_153 rfl (lv_at hl 4 rfl) ?_
            refine lv_iload hx hb rdX12_goesOn_154 (lv_at hl 0 rfl) ?_
            refine k_Si F w (As := [.int (zI (sg T tn (((sk T tn E) : Nat) : Int)))]) (rest := [.ref (B + 146)]) (t_isDigit (z := (sg T tn (((sk T tn E) : Nat) : Int))) (by omega)) rgs_X12_182 rhs_X12_isDigit ⟨(Nat.le_of_ble_eq_true rfl), (Nat.le_of_ble_eq_true rfl)⟩ hl.1 rfl (Nat.le_of_ble_eq_true rfl) ⟨Nat.zero_le _, Nat.zero_le _⟩ rdX12_goesOn_156 (fun r Ma42 H locs hp w => ?_)
            rcases hp with ⟨⟨hb41, rfl⟩ | ⟨hb41, rfl⟩, hMe⟩
            · rw [hMe] at w
              refine z_if_eq (tgt := 174) hx hb (by omega) rdX12_goesOn_159 (by decide) (fun c43 => False.elim (by omega)) (fun c43 => ?_)
              refine lv_iload_n hx hb rdX12_goesOn_162 rfl (lv_at hl 1 rfl) ?_
              refine z_if_eq (tgt := 170) hx hb (by omega) rdX12_goesOn_163 (by decide) (fun c44 => ?_) (fun c44 => False.elim (by omega))
              refine lv_iconst (v := zI 2) hx hb rdX12_goesOn_170 rfl ?_
              refine lv_goto (tgt := 186) hx hb rdX12_goesOn_171 (by decide) ?_
              refine u_12_13 F w (a := 146) rfl rtb_127 rdX12_goesOn_186 (fun H locs w => ?_)
              refine lv_aload_n hx hb rdX12_goesOn_189 rfl (lv_at hl 4 rfl) ?_
              refine lv_iload hx hb rdX12_goesOn_190 (lv_at hl 0 rfl) ?_
              refine lv_bipush (v := zI 48) hx hb rdX12_goesOn_192 (by decide) ?_
              refine z_isub (z := ((sg T tn (((sk T tn E) : Nat) : Int)) - 48)) hx hb rdX12_goesOn_194 (by omega) ?_
              refine u_12_11 F w (a := 146) rfl rtb_138 rdX12_goesOn_195 (fun H locs w => ?_)
              have hgg : (0 : Nat) = 1 ↔ (sk T tn E = E ∧ (0 < E ∧ nbl (T (E - 1)))) := ⟨fun q => absurd q (by decide), fun q => by have q1 := q.1; have q2 := hgl.mpr q.2; omega⟩
              have hgo := go_d (gl := 0) hE (by omega) (by omega) hgg (by decide)
              exact e_v F w hr hlocks ⟨⟨hE, (st_ne (Or.inr (by omega))).trans ((st_ne (Or.inr (by omega))).trans ((st_ne (Or.inr (by omega))).trans ((st_ne (Or.inr (by omega))).trans st_at))), ((st_ne (Or.inr (by omega))).trans ((st_ne (Or.inr (by omega))).trans st_at)).trans (by rw [hgo.2.1]), ((st_ne (Or.inr (by omega))).trans st_at).trans (by rw [hgo.1.trans (if_neg (by decide))]; rfl), ((st_ne (Or.inr (by omega))).trans ((st_ne (Or.inr (by omega))).trans ((st_ne (Or.inr (by omega))).trans st_at))).trans (by rw [hgo.2.2]; rfl), fun _ => (st_at).trans (congrArg zI (by omega))⟩, (FrG.to (FrG.to (FrG.to (FrG.to (FrG.to (Fr9.g hB9) (by decide)) (by decide)) (by decide)) (by decide)) (by decide))⟩ rdX12_goesOn_198
            · rw [hMe] at w
              refine z_if_eq (tgt := 174) hx hb (by omega) rdX12_goesOn_159 (by decide) (fun c45 => ?_) (fun c45 => False.elim (by omega))
              refine lv_iload hx hb rdX12_goesOn_174 (lv_at hl 0 rfl) ?_
              refine lv_bipush (v := zI 59) hx hb rdX12_goesOn_176 (by decide) ?_
              refine z_icmp_ne (tgt := 185) hx hb (by omega) (by omega) rdX12_goesOn_178 (by decide) (fun c46 => ?_) (fun c46 => ?_)
              · refine lv_iconst (v := zI 4) hx hb rdX12_goesOn_185 rfl ?_
                refine u_12_13 F w (a := 146) rfl rtb_127 rdX12_goesOn_186 (fun H locs w => ?_)
                refine lv_aload_n hx hb rdX12_goesOn_189 rfl (lv_at hl 4 rfl) ?_
                refine lv_iload hx hb rdX12_goesOn_190 (lv_at hl 0 rfl) ?_
                refine lv_bipush (v := zI 48) hx hb rdX12_goesOn_192 (by decide) ?_
                refine z_isub (z := ((sg T tn (((sk T tn E) : Nat) : Int)) - 48)) hx hb rdX12_goesOn_194 (by omega) ?_
                refine u_12_11 F w (a := 146) rfl rtb_138 rdX12_goesOn_195 (fun H locs w => ?_)
                have hgg : (0 : Nat) = 1 ↔ (sk T tn E = E ∧ (0 < E ∧ nbl (T (E - 1)))) := ⟨fun q => absurd q (by decide), fun q => by have q1 := q.1; have q2 := hgl.mpr q.2; omega⟩
                have hgo := go_o hE (show sk T tn E < tn by omega) (by omega) (by omega)
                exact e_v F w hr hlocks ⟨⟨hE, (st_ne (Or.inr (by omega))).trans ((st_ne (Or.inr (by omega))).trans ((st_ne (Or.inr (by omega))).trans ((st_ne (Or.inr (by omega))).trans st_at))), ((st_ne (Or.inr (by omega))).trans ((st_ne (Or.inr (by omega))).trans st_at)).trans (by rw [hgo.2.1]), ((st_ne (Or.inr (by omega))).trans st_at).trans (by rw [hgo.1.trans (if_neg (by omega))]; rfl), ((st_ne (Or.inr (by omega))).trans ((st_ne (Or.inr (by omega))).trans ((st_ne (Or.inr (by omega))).trans st_at))).trans (by rw [hgo.2.2]; rfl), fun q => absurd ((hgo.1.trans (if_neg (by omega))).symm.trans q) (by decide)⟩, (FrG.to (FrG.to (FrG.to (FrG.to (FrG.to (Fr9.g hB9) (by decide)) (by decide)) (by decide)) (by decide)) (by decide))⟩ rdX12_goesOn_198
              · refine lv_iconst (v := zI 3) hx hb rdX12_goesOn_181 rfl ?_
                refine lv_goto (tgt := 186) hx hb rdX12_goesOn_182 (by decide) ?_
                refine u_12_13 F w (a := 146) rfl rtb_127 rdX12_goesOn_186 (fun H locs w => ?_)
                refine lv_aload_n hx hb rdX12_goesOn_189 rfl (lv_at hl 4 rfl) ?_
                refine lv_iload hx hb rdX12_goesOn_190 (lv_at hl 0 rfl) ?_
                refine lv_bipush (v := zI 48) hx hb rdX12_goesOn_192 (by decide) ?_
                refine z_isub (z := ((sg T tn (((sk T tn E) : Nat) : Int)) - 48)) hx hb rdX12_goesOn_194 (by omega) ?_
                refine u_12_11 F w (a := 146) rfl rtb_138 rdX12_goesOn_195 (fun H locs w => ?_)
                have hgg : (0 : Nat) = 1 ↔ (sk T tn E = E ∧ (0 < E ∧ nbl (T (E - 1)))) := ⟨fun q => absurd q (by decide), fun q => by have q1 := q.1; have q2 := hgl.mpr q.2; omega⟩
                have hgo := go_o hE (show sk T tn E < tn by omega) (by omega) (by omega)
                exact e_v F w hr hlocks ⟨⟨hE, (st_ne (Or.inr (by omega))).trans ((st_ne (Or.inr (by omega))).trans ((st_ne (Or.inr (by omega))).trans ((st_ne (Or.inr (by omega))).trans st_at))), ((st_ne (Or.inr (by omega))).trans ((st_ne (Or.inr (by omega))).trans st_at)).trans (by rw [hgo.2.1]), ((st_ne (Or.inr (by omega))).trans st_at).trans (by rw [hgo.1.trans (if_pos (by omega))]; rfl), ((st_ne (Or.inr (by omega))).trans ((st_ne (Or.inr (by omega))).trans ((st_ne (Or.inr (by omega))).trans st_at))).trans (by rw [hgo.2.2]; rfl), fun q => absurd ((hgo.1.trans (if_pos (by omega))).symm.trans q) (by decide)⟩, (FrG.to (FrG.to (FrG.to (FrG.to (FrG.to (Fr9.g hB9) (by decide)) (by decide)) (by decide)) (by decide)) (by decide))⟩ rdX12_goesOn_198
        · refine lv_aload_n hx hb rdX12_goesOn_64 rfl (lv_at hl 4 rfl) ?_
          refine lv_iconst (v := zI 0) hx hb rdX12_goesOn_65 rfl ?_
          refine u_12_13 F w (a := 146) rfl rtb_127 rdX12_goesOn_66 (fun H locs w => ?_)
          refine lv_goto (tgt := 198) hx hb rdX12_goesOn_69 (by decide) ?_
          have hgg : (0 : Nat) = 1 ↔ (sk T tn E = E ∧ (0 < E ∧ nbl (T (E - 1)))) := ⟨fun q => absurd q (by decide), fun q => by have q1 := q.1; have q2 := hgl.mpr q.2; omega⟩
          have hgo := go_e hE (show tn ≤ sk T tn E by omega)
          exact e_v F w hr hlocks ⟨⟨hE, (st_ne (Or.inr (by omega))).trans ((st_ne (Or.inr (by omega))).trans st_at), ((st_ne (Or.inr (by omega))).trans ((st_ne (Or.inr (by omega))).trans ((st_ne (Or.inr (by omega))).trans hk9))).trans (by rw [hgo.2.2]), (st_at).trans (by rw [hgo.1]; rfl), ((st_ne (Or.inr (by omega))).trans st_at).trans (by rw [hgo.2.1]; rfl), fun q => absurd (hgo.1.symm.trans q) (by decide)⟩, (FrG.to (FrG.to (FrG.to (Fr9.g hB9) (by decide)) (by decide)) (by decide))⟩ rdX12_goesOn_198
      · refine lv_iconst (v := zI 1) hx hb rdX12_goesOn_40 rfl ?_
        refine lv_goto (tgt := 45) hx hb rdX12_goesOn_41 (by decide) ?_
        refine lv_istore_n (lv' := [(3, .int (zI 1)), (2, .int (zI (E : Int))), (1, .int (zI (wa : Int))), (0, .ref (B + 146))]) hx hb rdX12_goesOn_45 rfl hl (by decide) rfl (fun ls hl => ?_)
        refine lv_aload_n hx hb rdX12_goesOn_46 rfl (lv_at hl 3 rfl) ?_
        refine x_Vi F w (As := []) (rest := []) (a := 146) (kd_lt (a := 146) (show kd 146 = (12, 0, 0) from rfl) (by decide)) (sh_12 rfl _ _) rfl (t_here hT (isTr.o hTr1 (Or.inr (by decide)) (by decide)) (A := (sk T tn E)) ((st_ne (Or.inr (by omega))).trans hk9) (by omega)) rgv_X12_175 rhv_X12_here ⟨(Nat.le_of_ble_eq_true rfl), (Nat.le_of_ble_eq_true rfl)⟩ hl.1 rfl (Nat.le_of_ble_eq_true rfl) ⟨Nat.zero_le _, Nat.zero_le _⟩ rdX12_goesOn_47 (fun H locs w => ?_)
        have hg46 := sg_rg hT (((sk T tn E) : Nat) : Int)
        have hh46 := sg_c (T := T) (N := tn) (sk T tn E)
        refine lv_istore (lv' := [(4, .int (zI (sg T tn (((sk T tn E) : Nat) : Int)))), (3, .int (zI 1)), (2, .int (zI (E : Int))), (1, .int (zI (wa : Int))), (0, .ref (B + 146))]) hx hb rdX12_goesOn_50 hl (by decide) rfl (fun ls hl => ?_)
        refine lv_aload_n hx hb rdX12_goesOn_52 rfl (lv_at hl 4 rfl) ?_
        refine lv_bipush (v := zI 29) hx hb rdX12_goesOn_53 (by decide) ?_
        refine u_12_15 F w (a := 146) rfl rtb_132 rdX12_goesOn_55 (fun H locs w => ?_)
        refine lv_iload hx hb rdX12_goesOn_58 (lv_at hl 0 rfl) ?_
        refine lv_iconst (v := zI (-1)) hx hb rdX12_goesOn_60 rfl ?_
        refine z_icmp_ne (tgt := 72) hx hb (by omega) (by omega) rdX12_goesOn_61 (by decide) (fun c48 => ?_) (fun c48 => ?_)
        · refine lv_iload hx hb rdX12_goesOn_72 (lv_at hl 0 rfl) ?_
          refine lv_bipush (v := zI 97) hx hb rdX12_goesOn_74 (by decide) ?_
          refine lv_bipush (v := zI 122) hx hb rdX12_goesOn_76 (by decide) ?_
          refine k_Si F w (As := [.int (zI (sg T tn (((sk T tn E) : Nat) : Int))), .int (zI 97), .int (zI 122)]) (rest := []) (t_in (v := (sg T tn (((sk T tn E) : Nat) : Int))) (a := 97) (b := 122) (by omega) (by omega) (by omega)) rgs_X12_55 rhs_X12_in ⟨(Nat.le_of_ble_eq_true rfl), (Nat.le_of_ble_eq_true rfl)⟩ hl.1 rfl (Nat.le_of_ble_eq_true rfl) ⟨Nat.zero_le _, Nat.zero_le _⟩ rdX12_goesOn_78 (fun r Ma50 H locs hp w => ?_)
          rcases hp with ⟨⟨hb49, rfl⟩ | ⟨hb49, rfl⟩, hMe⟩
          · rw [hMe] at w
            refine z_if_eq (tgt := 143) hx hb (by omega) rdX12_goesOn_81 (by decide) (fun c51 => False.elim (by omega)) (fun c51 => ?_)
            refine lp_X12_goesOn (gl := 1) F (Nat.le_of_ble_eq_true rfl) (Nat.le_of_ble_eq_true rfl) hT hE (fun k Nm H locs ls x0 x1 x2 x3 x4 x5 x6 w hl => ?_) tn (sk T tn E) (st (st Ma1 146 14 (zI (((sk T tn E) : Nat) : Int))) 146 15 (zI 29)) (by omega) (by omega) rfl ((st_ne (Or.inr (by omega))).trans ((st_ne (Or.inr (by omega))).trans hk9)) (isTr.o (isTr.o hTr1 (Or.inr (by decide)) (by decide)) (Or.inr (by decide)) (by decide)) (isWd.fr (isWd.fr hWd1 (st_o (by decide))) (st_o (by decide))) ((st_ne (Or.inr (by omega))).trans st_at) (FrG.to (FrG.to (Fr9.g hB9) (by decide)) (by decide)) (by omega) _ _ ls w (lv_sub hl [4, 1] rfl)
            refine lv_aload_n hx hb rdX12_goesOn_111 rfl (lv_at hl 0 rfl) ?_
            refine lv_iload_n hx hb rdX12_goesOn_112 rfl (lv_at hl 1 rfl) ?_
            refine z_if_eq (tgt := 120) hx hb (by omega) rdX12_goesOn_113 (by decide) (fun c52 => False.elim (by omega)) (fun c52 => ?_)
            refine lv_iconst (v := zI 4) hx hb rdX12_goesOn_116 rfl ?_
            refine lv_goto (tgt := 121) hx hb rdX12_goesOn_117 (by decide) ?_
            refine u_12_13 F w (a := 146) rfl rtb_127 rdX12_goesOn_121 (fun H locs w => ?_)
            refine lv_aload_n hx hb rdX12_goesOn_124 rfl (lv_at hl 0 rfl) ?_
            refine lv_aload_n hx hb rdX12_goesOn_125 rfl (lv_at hl 0 rfl) ?_
            refine lv_aload_n hx hb rdX12_goesOn_126 rfl (lv_at hl 0 rfl) ?_
            refine f_12_14 F w (a := 146) rfl rtb_131 rdX12_goesOn_127 ?_
            refine r_val (v := (zI (((sk T tn E) : Nat) : Int))) ((st_ne (Or.inr (by omega))).trans x4) ?_
            refine lv_aload_n hx hb rdX12_goesOn_130 rfl (lv_at hl 0 rfl) ?_
            refine f_12_9 F w (a := 146) rfl rtb_120 rdX12_goesOn_131 ?_
            refine r_val (v := (zI (k : Int))) ((st_ne (Or.inr (by omega))).trans x1) ?_
            refine x_Vi F w (As := [.int (zI (((sk T tn E) : Nat) : Int)), .int (zI (k : Int))]) (rest := [.ref (B + 146)]) (a := 146) (kd_lt (a := 146) (show kd 146 = (12, 0, 0) from rfl) (by decide)) (sh_12 rfl _ _) rfl (t_wordAt hT (isTr.o x2 (Or.inr (by decide)) (by decide)) (isWd.fr x3 (st_o (by decide))) (s9 := (sk T tn E)) (e9 := k) (by omega) (by omega)) rgv_X12_213 rhv_X12_wordAt ⟨(Nat.le_of_ble_eq_true rfl), (Nat.le_of_ble_eq_true rfl)⟩ hl.1 rfl (Nat.le_of_ble_eq_true rfl) ⟨Nat.zero_le _, Nat.zero_le _⟩ rdX12_goesOn_134 (fun H locs w => ?_)
            have hsw : WDS.idxOf (pl T (sk T tn E) k) ≤ 29 := List.idxOf_le_length (l := WDS)
            refine u_12_15 F w (a := 146) rfl rtb_132 rdX12_goesOn_137 (fun H locs w => ?_)
            refine lv_goto (tgt := 198) hx hb rdX12_goesOn_140 (by decide) ?_
            have hgg : (1 : Nat) = 1 ↔ (sk T tn E = E ∧ (0 < E ∧ nbl (T (E - 1)))) := ⟨fun _ => ⟨by omega, hgl.mp (by omega)⟩, fun _ => rfl⟩
            have hgo := go_l (gl := 1) hE (by omega) (by omega) hgg (by decide)
            exact e_v F w hr hlocks ⟨⟨hE, (st_ne (Or.inr (by omega))).trans ((st_ne (Or.inr (by omega))).trans x4), ((st_ne (Or.inr (by omega))).trans ((st_ne (Or.inr (by omega))).trans x1)).trans (by rw [hgo.2, x0]), ((st_ne (Or.inr (by omega))).trans st_at).trans (by rw [hgo.1.trans (if_pos rfl)]; rfl), (st_at).trans (by unfold sp; rw [hgo.2, x0]), fun q => absurd ((hgo.1.trans (if_pos rfl)).symm.trans q) (by decide)⟩, (FrG.to (FrG.to x5 (by decide)) (by decide))⟩ rdX12_goesOn_198
          · rw [hMe] at w
            refine z_if_eq (tgt := 143) hx hb (by omega) rdX12_goesOn_81 (by decide) (fun c54 => ?_) (fun c54 => False.elim (by omega))
            refine lv_aload_n hx hb rdX12_goesOn_143 rfl (lv_at hl 4 rfl) ?_
            refine lv_dup hx hb rdX12_goesOn_144 rfl ?_
            refine f_12_9 F w (a := 146) rfl rtb_120 rdX12_goesOn_145 ?_
            refine r_val (v := (zI (((sk T tn E) : Nat) : Int))) ((st_ne (Or.inr (by omega))).trans ((st_ne (Or.inr (by omega))).trans hk9)) ?_
            refine lv_iconst (v := zI 1) hx hb rdX12_goesOn_148 rfl ?_
            refine z_iadd (z := ((((sk T tn E) + 1) : Nat) : Int)) hx hb rdX12_goesOn_149 (by omega) ?_
            refine u_12_9 F w (a := 146) rfl rtb_120 rdX12_goesOn_150 (fun H locs w => ?_)
            refine lv_aload_n hx hb rdX12_goesOn_153 rfl (lv_at hl 4 rfl) ?_
            refine lv_iload hx hb rdX12_goesOn_154 (lv_at hl 0 rfl) ?_
            refine k_Si F w (As := [.int (zI (sg T tn (((sk T tn E) : Nat) : Int)))]) (rest := [.ref (B + 146)]) (t_isDigit (z := (sg T tn (((sk T tn E) : Nat) : Int))) (by omega)) rgs_X12_182 rhs_X12_isDigit ⟨(Nat.le_of_ble_eq_true rfl), (Nat.le_of_ble_eq_true rfl)⟩ hl.1 rfl (Nat.le_of_ble_eq_true rfl) ⟨Nat.zero_le _, Nat.zero_le _⟩ rdX12_goesOn_156 (fun r Ma56 H locs hp w => ?_)
            rcases hp with ⟨⟨hb55, rfl⟩ | ⟨hb55, rfl⟩, hMe⟩
            · rw [hMe] at w
              refine z_if_eq (tgt := 174) hx hb (by omega) rdX12_goesOn_159 (by decide) (fun c57 => False.elim (by omega)) (fun c57 => ?_)
              refine lv_iload_n hx hb rdX12_goesOn_162 rfl (lv_at hl 1 rfl) ?_
              refine z_if_eq (tgt := 170) hx hb (by omega) rdX12_goesOn_163 (by decide) (fun c58 => False.elim (by omega)) (fun c58 => ?_)
              refine lv_iconst (v := zI 4) hx hb rdX12_goesOn_166 rfl ?_
              refine lv_goto (tgt := 186) hx hb rdX12_goesOn_167 (by decide) ?_
              refine u_12_13 F w (a := 146) rfl rtb_127 rdX12_goesOn_186 (fun H locs w => ?_)
              refine lv_aload_n hx hb rdX12_goesOn_189 rfl (lv_at hl 4 rfl) ?_
              refine lv_iload hx hb rdX12_goesOn_190 (lv_at hl 0 rfl) ?_
              refine lv_bipush (v := zI 48) hx hb rdX12_goesOn_192 (by decide) ?_
              refine z_isub (z := ((sg T tn (((sk T tn E) : Nat) : Int)) - 48)) hx hb rdX12_goesOn_194 (by omega) ?_
              refine u_12_11 F w (a := 146) rfl rtb_138 rdX12_goesOn_195 (fun H locs w => ?_)
              have hgg : (1 : Nat) = 1 ↔ (sk T tn E = E ∧ (0 < E ∧ nbl (T (E - 1)))) := ⟨fun _ => ⟨by omega, hgl.mp (by omega)⟩, fun _ => rfl⟩
              have hgo := go_d (gl := 1) hE (by omega) (by omega) hgg (by decide)
              exact e_v F w hr hlocks ⟨⟨hE, (st_ne (Or.inr (by omega))).trans ((st_ne (Or.inr (by omega))).trans ((st_ne (Or.inr (by omega))).trans ((st_ne (Or.inr (by omega))).trans st_at))), ((st_ne (Or.inr (by omega))).trans ((st_ne (Or.inr (by omega))).trans st_at)).trans (by rw [hgo.2.1]), ((st_ne (Or.inr (by omega))).trans st_at).trans (by rw [hgo.1.trans (if_pos rfl)]; rfl), ((st_ne (Or.inr (by omega))).trans ((st_ne (Or.inr (by omega))).trans ((st_ne (Or.inr (by omega))).trans st_at))).trans (by rw [hgo.2.2]; rfl), fun _ => (st_at).trans (congrArg zI (by omega))⟩, (FrG.to (FrG.to (FrG.to (FrG.to (FrG.to (Fr9.g hB9) (by decide)) (by decide)) (by decide)) (by decide)) (by decide))⟩ rdX12_goesOn_198
            · rw [hMe] at w
              refine z_if_eq (tgt := 174) hx hb (by omega) rdX12_goesOn_159 (by decide) (fun c59 => ?_) (fun c59 => False.elim (by omega))
              refine lv_iload hx hb rdX12_goesOn_174 (lv_at hl 0 rfl) ?_
              refine lv_bipush (v := zI 59) hx hb rdX12_goesOn_176 (by decide) ?_
              refine z_icmp_ne (tgt := 185) hx hb (by omega) (by omega) rdX12_goesOn_178 (by decide) (fun c60 => ?_) (fun c60 => ?_)
              · refine lv_iconst (v := zI 4) hx hb rdX12_goesOn_185 rfl ?_
                refine u_12_13 F w (a := 146) rfl rtb_127 rdX12_goesOn_186 (fun H locs w => ?_)
                refine lv_aload_n hx hb rdX12_goesOn_189 rfl (lv_at hl 4 rfl) ?_
                refine lv_iload hx hb rdX12_goesOn_190 (lv_at hl 0 rfl) ?_
                refine lv_bipush (v := zI 48) hx hb rdX12_goesOn_192 (by decide) ?_
                refine z_isub (z := ((sg T tn (((sk T tn E) : Nat) : Int)) - 48)) hx hb rdX12_goesOn_194 (by omega) ?_
                refine u_12_11 F w (a := 146) rfl rtb_138 rdX12_goesOn_195 (fun H locs w => ?_)
                have hgg : (1 : Nat) = 1 ↔ (sk T tn E = E ∧ (0 < E ∧ nbl (T (E - 1)))) := ⟨fun _ => ⟨by omega, hgl.mp (by omega)⟩, fun _ => rfl⟩
                have hgo := go_o hE (show sk T tn E < tn by omega) (by omega) (by omega)
                exact e_v F w hr hlocks ⟨⟨hE, (st_ne (Or.inr (by omega))).trans ((st_ne (Or.inr (by omega))).trans ((st_ne (Or.inr (by omega))).trans ((st_ne (Or.inr (by omega))).trans st_at))), ((st_ne (Or.inr (by omega))).trans ((st_ne (Or.inr (by omega))).trans st_at)).trans (by rw [hgo.2.1]), ((st_ne (Or.inr (by omega))).trans st_at).trans (by rw [hgo.1.trans (if_neg (by omega))]; rfl), ((st_ne (Or.inr (by omega))).trans ((st_ne (Or.inr (by omega))).trans ((st_ne (Or.inr (by omega))).trans st_at))).trans (by rw [hgo.2.2]; rfl), fun q => absurd ((hgo.1.trans (if_neg (by omega))).symm.trans q) (by decide)⟩, (FrG.to (FrG.to (FrG.to (FrG.to (FrG.to (Fr9.g hB9) (by decide)) (by decide)) (by decide)) (by decide)) (by decide))⟩ rdX12_goesOn_198
              · refine lv_iconst (v := zI 3) hx hb rdX12_goesOn_181 rfl ?_
                refine lv_goto (tgt := 186) hx hb rdX12_goesOn_182 (by decide) ?_
                refine u_12_13 F w (a := 146) rfl rtb_127 rdX12_goesOn_186 (fun H locs w => ?_)
                refine lv_aload_n hx hb rdX12_goesOn_189 rfl (lv_at hl 4 rfl) ?_
                refine lv_iload hx hb rdX12_goesOn_190 (lv_at hl 0 rfl) ?_
                refine lv_bipush (v := zI 48) hx hb rdX12_goesOn_192 (by decide) ?_
                refine z_isub (z := ((sg T tn (((sk T tn E) : Nat) : Int)) - 48)) hx hb rdX12_goesOn_194 (by omega) ?_
                refine u_12_11 F w (a := 146) rfl rtb_138 rdX12_goesOn_195 (fun H locs w => ?_)
                have hgg : (1 : Nat) = 1 ↔ (sk T tn E = E ∧ (0 < E ∧ nbl (T (E - 1)))) := ⟨fun _ => ⟨by omega, hgl.mp (by omega)⟩, fun _ => rfl⟩
                have hgo := go_o hE (show sk T tn E < tn by omega) (by omega) (by omega)
                exact e_v F w hr hlocks ⟨⟨hE, (st_ne (Or.inr (by omega))).trans ((st_ne (Or.inr (by omega))).trans ((st_ne (Or.inr (by omega))).trans ((st_ne (Or.inr (by omega))).trans st_at))), ((st_ne (Or.inr (by omega))).trans ((st_ne (Or.inr (by omega))).trans st_at)).trans (by rw [hgo.2.1]), ((st_ne (Or.inr (by omega))).trans st_at).trans (by rw [hgo.1.trans (if_pos (by omega))]; rfl), ((st_ne (Or.inr (by omega))).trans ((st_ne (Or.inr (by omega))).trans ((st_ne (Or.inr (by omega))).trans st_at))).trans (by rw [hgo.2.2]; rfl), fun q => absurd ((hgo.1.trans (if_pos (by omega))).symm.trans q) (by decide)⟩, (FrG.to (FrG.to (FrG.to (FrG.to (FrG.to (Fr9.g hB9) (by decide)) (by decide)) (by decide)) (by decide)) (by decide))⟩ rdX12_goesOn_198
        · refine lv_aload_n hx hb rdX12_goesOn_64 rfl (lv_at hl 4 rfl) ?_
          refine lv_iconst (v := zI 0) hx hb rdX12_goesOn_65 rfl ?_
          refine u_12_13 F w (a := 146) rfl rtb_127 rdX12_goesOn_66 (fun H locs w => ?_)
          refine lv_goto (tgt := 198) hx hb rdX12_goesOn_69 (by decide) ?_
          have hgg : (1 : Nat) = 1 ↔ (sk T tn E = E ∧ (0 < E ∧ nbl (T (E - 1)))) := ⟨fun _ => ⟨by omega, hgl.mp (by omega)⟩, fun _ => rfl⟩
          have hgo := go_e hE (show tn ≤ sk T tn E by omega)
          exact e_v F w hr hlocks ⟨⟨hE, (st_ne (Or.inr (by omega))).trans ((st_ne (Or.inr (by omega))).trans st_at), ((st_ne (Or.inr (by omega))).trans ((st_ne (Or.inr (by omega))).trans ((st_ne (Or.inr (by omega))).trans hk9))).trans (by rw [hgo.2.2]), (st_at).trans (by rw [hgo.1]; rfl), ((st_ne (Or.inr (by omega))).trans st_at).trans (by rw [hgo.2.1]; rfl), fun q => absurd (hgo.1.symm.trans q) (by decide)⟩, (FrG.to (FrG.to (FrG.to (Fr9.g hB9) (by decide)) (by decide)) (by decide))⟩ rdX12_goesOn_198
