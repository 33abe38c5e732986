theorem udX12_readsNumber_0 : decode cX12_readsNumber 0 = .ok (.aload_n 0, 1) := dq0 kk_42 (by decide +kernel)
theorem udX12_readsNumber_1 : decode cX12_readsNumber 1 = .ok (.getfield 172, 3) := dqV kk_180 (by decide +kernel)
theorem udX12_readsNumber_4 : decode cX12_readsNumber 4 = .ok (.istore_n 2, 1) := dq0 kk_61 (by decide +kernel)
theorem udX12_readsNumber_5 : decode cX12_readsNumber 5 = .ok (.aload_n 0, 1) := dq0 kk_42 (by decide +kernel)
theorem udX12_readsNumber_6 : decode cX12_readsNumber 6 = .ok (.invokevirtual 175, 3) := dqV kk_182 (by decide +kernel)
theorem udX12_readsNumber_9 : decode cX12_readsNumber 9 = .ok (.invokestatic 182, 3) := dqV kk_184 (by decide +kernel)
theorem utk_X12_isDigit : Cond.code yX12_isDigit cX12_isDigit 1 (some .boolean) ∈ TB := rtk_X12_isDigit
theorem ugc_X12_isDigit : GoodIn TB (cw yX12_isDigit cX12_isDigit 1 (some .boolean)) := goodIn_c2 utk_X12_isDigit
theorem utb_100 : Cond.methodLink "ToneLinesModel" 182 yX12_isDigit ∈ TB := rtb_136
theorem utb_101 : Cond.static yX12_isDigit ∈ TB := rtb_137
theorem ugs_X12_182 : GoodIn TB (va_wsS RX12 182 yX12_isDigit (cw yX12_isDigit cX12_isDigit 1 (some .boolean))) := goodIn_3 utb_100 utb_101 utb_92 ugc_X12_isDigit
theorem uhs_X12_isDigit : yX12_isDigit.cls ≠ "java/lang/invoke/MethodHandle" ∧ yX12_isDigit.cls ≠ "java/lang/invoke/VarHandle" ∧ (parseMethodDescriptor yX12_isDigit.desc).map (fun d => d.parameters.length) = some 1 := rhs_X12_isDigit
theorem udX12_readsNumber_12 : decode cX12_readsNumber 12 = .ok (.ifCond .ne 5, 3) := dqT kk_154 (by decide +kernel)
theorem udX12_readsNumber_17 : decode cX12_readsNumber 17 = .ok (.aload_n 0, 1) := dq0 kk_42 (by decide +kernel)
theorem udX12_readsNumber_18 : decode cX12_readsNumber 18 = .ok (.aload_n 0, 1) := dq0 kk_42 (by decide +kernel)
theorem udX12_readsNumber_19 : decode cX12_readsNumber 19 = .ok (.invokevirtual 175, 3) := dqV kk_182 (by decide +kernel)
theorem udX12_readsNumber_22 : decode cX12_readsNumber 22 = .ok (.bipush 48, 2) := dqS kk_16 (by decide +kernel)
theorem udX12_readsNumber_24 : decode cX12_readsNumber 24 = .ok (.isub, 1) := dq0 kk_100 (by decide +kernel)
theorem udX12_readsNumber_25 : decode cX12_readsNumber 25 = .ok (.putfield 185, 3) := dqV kk_181 (by decide +kernel)
theorem utb_102 : Cond.fieldLink "ToneLinesModel" 185 "ToneLinesModel" "number" "I" ∈ TB := rtb_138
theorem udX12_readsNumber_28 : decode cX12_readsNumber 28 = .ok (.aload_n 0, 1) := dq0 kk_42 (by decide +kernel)
theorem udX12_readsNumber_29 : decode cX12_readsNumber 29 = .ok (.dup, 1) := dq0 kk_89 (by decide +kernel)
theorem udX12_readsNumber_30 : decode cX12_readsNumber 30 = .ok (.getfield 172, 3) := dqV kk_180 (by decide +kernel)
theorem udX12_readsNumber_33 : decode cX12_readsNumber 33 = .ok (.iconst 1, 1) := dq0 kk_4 (by decide +kernel)
theorem udX12_readsNumber_34 : decode cX12_readsNumber 34 = .ok (.iadd, 1) := dq0 kk_96 (by decide +kernel)
theorem udX12_readsNumber_35 : decode cX12_readsNumber 35 = .ok (.putfield 172, 3) := dqV kk_181 (by decide +kernel)
theorem udX12_readsNumber_38 : decode cX12_readsNumber 38 = .ok (.aload_n 0, 1) := dq0 kk_42 (by decide +kernel)
theorem udX12_readsNumber_39 : decode cX12_readsNumber 39 = .ok (.invokevirtual 175, 3) := dqV kk_182 (by decide +kernel)
theorem udX12_readsNumber_42 : decode cX12_readsNumber 42 = .ok (.invokestatic 182, 3) := dqV kk_184 (by decide +kernel)
theorem udX12_readsNumber_45 : decode cX12_readsNumber 45 = .ok (.ifCond .eq 32, 3) := dqT kk_153 (by decide +kernel)
theorem udX12_readsNumber_48 : decode cX12_readsNumber 48 = .ok (.aload_n 0, 1) := dq0 kk_42 (by decide +kernel)
theorem udX12_readsNumber_49 : decode cX12_readsNumber 49 = .ok (.bipush 10, 2) := dqS kk_16 (by decide +kernel)
theorem udX12_readsNumber_51 : decode cX12_readsNumber 51 = .ok (.aload_n 0, 1) := dq0 kk_42 (by decide +kernel)
theorem udX12_readsNumber_52 : decode cX12_readsNumber 52 = .ok (.getfield 185, 3) := dqV kk_180 (by decide +kernel)
theorem udX12_readsNumber_55 : decode cX12_readsNumber 55 = .ok (.imul, 1) := dq0 kk_104 (by decide +kernel)
theorem udX12_readsNumber_56 : decode cX12_readsNumber 56 = .ok (.aload_n 0, 1) := dq0 kk_42 (by decide +kernel)
theorem udX12_readsNumber_57 : decode cX12_readsNumber 57 = .ok (.invokevirtual 175, 3) := dqV kk_182 (by decide +kernel)
theorem udX12_readsNumber_60 : decode cX12_readsNumber 60 = .ok (.iadd, 1) := dq0 kk_96 (by decide +kernel)
theorem udX12_readsNumber_61 : decode cX12_readsNumber 61 = .ok (.bipush 48, 2) := dqS kk_16 (by decide +kernel)
theorem udX12_readsNumber_63 : decode cX12_readsNumber 63 = .ok (.isub, 1) := dq0 kk_100 (by decide +kernel)
theorem udX12_readsNumber_64 : decode cX12_readsNumber 64 = .ok (.putfield 185, 3) := dqV kk_181 (by decide +kernel)
theorem udX12_readsNumber_67 : decode cX12_readsNumber 67 = .ok (.aload_n 0, 1) := dq0 kk_42 (by decide +kernel)
theorem udX12_readsNumber_68 : decode cX12_readsNumber 68 = .ok (.dup, 1) := dq0 kk_89 (by decide +kernel)
theorem udX12_readsNumber_69 : decode cX12_readsNumber 69 = .ok (.getfield 172, 3) := dqV kk_180 (by decide +kernel)
theorem udX12_readsNumber_72 : decode cX12_readsNumber 72 = .ok (.iconst 1, 1) := dq0 kk_4 (by decide +kernel)
theorem udX12_readsNumber_73 : decode cX12_readsNumber 73 = .ok (.iadd, 1) := dq0 kk_96 (by decide +kernel)
theorem udX12_readsNumber_74 : decode cX12_readsNumber 74 = .ok (.putfield 172, 3) := dqV kk_181 (by decide +kernel)
theorem udX12_readsNumber_77 : decode cX12_readsNumber 77 = .ok (.aload_n 0, 1) := dq0 kk_42 (by decide +kernel)
theorem udX12_readsNumber_78 : decode cX12_readsNumber 78 = .ok (.getfield 185, 3) := dqV kk_180 (by decide +kernel)
theorem udX12_readsNumber_81 : decode cX12_readsNumber 81 = .ok (.iload_n 1, 1) := dq0 kk_27 (by decide +kernel)
theorem udX12_readsNumber_82 : decode cX12_readsNumber 82 = .ok (.if_icmp .lt 10, 3) := dqT kk_161 (by decide +kernel)
theorem udX12_readsNumber_92 : decode cX12_readsNumber 92 = .ok (.aload_n 0, 1) := dq0 kk_42 (by decide +kernel)
theorem udX12_readsNumber_93 : decode cX12_readsNumber 93 = .ok (.invokevirtual 175, 3) := dqV kk_182 (by decide +kernel)
theorem udX12_readsNumber_96 : decode cX12_readsNumber 96 = .ok (.invokestatic 182, 3) := dqV kk_184 (by decide +kernel)
theorem udX12_readsNumber_99 : decode cX12_readsNumber 99 = .ok (.ifCond .ne 7, 3) := dqT kk_154 (by decide +kernel)
theorem udX12_readsNumber_106 : decode cX12_readsNumber 106 = .ok (.iconst 0, 1) := dq0 kk_3 (by decide +kernel)
theorem udX12_readsNumber_107 : decode cX12_readsNumber 107 = .ok (.ireturn, 1) := dq0 kk_172 (by decide +kernel)
theorem udX12_readsNumber_102 : decode cX12_readsNumber 102 = .ok (.iconst 1, 1) := dq0 kk_4 (by decide +kernel)
theorem udX12_readsNumber_103 : decode cX12_readsNumber 103 = .ok (.goto 4, 3) := dqT kk_167 (by decide +kernel)
theorem udX12_readsNumber_85 : decode cX12_readsNumber 85 = .ok (.aload_n 0, 1) := dq0 kk_42 (by decide +kernel)
theorem udX12_readsNumber_86 : decode cX12_readsNumber 86 = .ok (.iload_n 2, 1) := dq0 kk_28 (by decide +kernel)
theorem udX12_readsNumber_87 : decode cX12_readsNumber 87 = .ok (.putfield 172, 3) := dqV kk_181 (by decide +kernel)
theorem udX12_readsNumber_90 : decode cX12_readsNumber 90 = .ok (.iconst 0, 1) := dq0 kk_3 (by decide +kernel)
theorem udX12_readsNumber_91 : decode cX12_readsNumber 91 = .ok (.ireturn, 1) := dq0 kk_172 (by decide +kernel)
theorem udX12_readsNumber_15 : decode cX12_readsNumber 15 = .ok (.iconst 0, 1) := dq0 kk_3 (by decide +kernel)
theorem udX12_readsNumber_16 : decode cX12_readsNumber 16 = .ok (.ireturn, 1) := dq0 kk_172 (by decide +kernel)
set_option maxRecDepth 4000 in
theorem t_readsNumber {l : Launch} {D : va_G} {B : Nat} {cy : Nat → ClassId} {M : Mem} {T : Nat → Nat} {tn : Nat} (hT : okT T tn) {b : Nat} {y : Sy} {o : Wo} (hD : ES M T tn b y o) {bl : Nat} (hbl : bl ≤ 12) : Ci l D B cy yX12_readsNumber cX12_readsNumber 3 (some .boolean) 2 42 [.ref (B + 146), .int (zI (bl : Int))] M (fun r M1 => (∃ v j : Nat, nmF T tn b bl = some (v, j) ∧ ¬ (48 ≤ sg T tn (j : Int) ∧ sg T tn (j : Int) ≤ 57) ∧ r = zI 1 ∧ M1.1 146 11 = zI (v : Int) ∧ M1.1 146 9 = zI (j : Int) ∧ M1.1 151 = M.1 151 ∧ FrE M1 M ∧ v < bl ∧ b < j ∧ j ≤ tn) ∨ ((nmF T tn b bl = none ∨ ∃ v j : Nat, nmF T tn b bl = some (v, j) ∧ j ≤ tn ∧ 48 ≤ sg T tn (j : Int) ∧ sg T tn (j : Int) ≤ 57) ∧ r = zI 0 ∧ (∃ j : Nat, M1.1 146 9 = zI (j : Int) ∧ j ≤ tn) ∧ FrE M1 M)) := by
  refine s_any (by decide) (Nat.le_of_ble_eq_true rfl) ?_
  intro p e s m below meth c ls F hr hlocks w hl
  have F : CallFix p m c cX12_readsNumber 3 s _ TB RX12 := F
  have hx := F.1
  have hb := F.2.1
  have hl : lv_has ls 3 [(0, .ref (B + 146)), (1, .int (zI (bl : Int)))] := hl
  have hN := hT.1
  have hbN := hD.2.2.1
  refine lv_aload_n hx hb udX12_readsNumber_0 rfl (lv_at hl 0 rfl) ?_
  refine f_12_9 F w (a := 146) rfl utb_96 udX12_readsNumber_1 ?_
  refine r_val (v := (zI (b : Int))) (hD.2.1) ?_
  refine lv_istore_n (lv' := [(2, .int (zI (b : Int))), (0, .ref (B + 146)), (1, .int (zI (bl : Int)))]) hx hb udX12_readsNumber_4 rfl hl (by decide) rfl (fun ls hl => ?_)
  refine lv_aload_n hx hb udX12_readsNumber_5 rfl (lv_at hl 1 rfl) ?_
  refine x_Vi F w (As := []) (rest := []) (a := 146) (kd_lt (a := 146) (show kd 146 = (12, 0, 0) from rfl) (by decide)) (sh_12 rfl _ _) rfl (t_here hT hD.1 (A := b) hD.2.1 (by omega)) ugv_X12_175 uhv_X12_here ⟨(Nat.le_of_ble_eq_true rfl), (Nat.le_of_ble_eq_true rfl)⟩ hl.1 rfl (Nat.le_of_ble_eq_true rfl) ⟨Nat.zero_le _, Nat.zero_le _⟩ udX12_readsNumber_6 (fun H locs w => ?_)
  have hg0 := sg_rg hT (b : Int)
  have hh0 := sg_c (T := T) (N := tn) b
  have ht0 := hT.2 b
  refine k_Si F w (As := [.int (zI (sg T tn (b : Int)))]) (rest := []) (t_isDigit (z := (sg T tn (b : Int))) (by omega)) ugs_X12_182 uhs_X12_isDigit ⟨(Nat.le_of_ble_eq_true rfl), (Nat.le_of_ble_eq_true rfl)⟩ hl.1 rfl (Nat.le_of_ble_eq_true rfl) ⟨Nat.zero_le _, Nat.zero_le _⟩ udX12_readsNumber_9 (fun r Ma3 H locs hp w => ?_)
  rcases hp with ⟨⟨hb2, rfl⟩ | ⟨hb2, rfl⟩, hMe⟩
  · rw [hMe] at w
    refine z_if_ne (tgt := 17) hx hb (by omega) udX12_readsNumber_12 (by decide) (fun c4 => ?_) (fun c4 => False.elim (by omega))
    refine lv_aload_n hx hb udX12_readsNumber_17 rfl (lv_at hl 1 rfl) ?_
    refine lv_aload_n hx hb udX12_readsNumber_18 rfl (lv_at hl 1 rfl) ?_
    refine x_Vi F w (As := []) (rest := [.ref (B + 146)]) (a := 146) (kd_lt (a := 146) (show kd 146 = (12, 0, 0) from rfl) (by decide)) (sh_12 rfl _ _) rfl (t_here hT hD.1 (A := b) hD.2.1 (by omega)) ugv_X12_175 uhv_X12_here ⟨(Nat.le_of_ble_eq_true rfl), (Nat.le_of_ble_eq_true rfl)⟩ hl.1 rfl (Nat.le_of_ble_eq_true rfl) ⟨Nat.zero_le _, Nat.zero_le _⟩ udX12_readsNumber_19 (fun H locs w => ?_)
    have hg4 := sg_rg hT (b : Int)
    have hh4 := sg_c (T := T) (N := tn) b
    have ht4 := hT.2 b
    refine lv_bipush (v := zI 48) hx hb udX12_readsNumber_22 (by decide) ?_
    refine z_isub (z := ((sg T tn (b : Int)) - 48)) hx hb udX12_readsNumber_24 (by omega) ?_
    refine u_12_11 F w (a := 146) rfl utb_102 udX12_readsNumber_25 (fun H locs w => ?_)
    refine lv_aload_n hx hb udX12_readsNumber_28 rfl (lv_at hl 1 rfl) ?_
    refine lv_dup hx hb udX12_readsNumber_29 rfl ?_
    refine f_12_9 F w (a := 146) rfl utb_96 udX12_readsNumber_30 ?_
    refine r_val (v := (zI (b : Int))) ((st_ne (Or.inr (by omega))).trans (hD.2.1)) ?_
    refine lv_iconst (v := zI 1) hx hb udX12_readsNumber_33 rfl ?_
    refine z_iadd (z := (((b + 1) : Nat) : Int)) hx hb udX12_readsNumber_34 (by omega) ?_
    refine u_12_9 F w (a := 146) rfl utb_96 udX12_readsNumber_35 (fun H locs w => ?_)
    refine lv_aload_n hx hb udX12_readsNumber_38 rfl (lv_at hl 1 rfl) ?_
    have hD6 : ES (st M 146 11 (zI ((sg T tn (b : Int)) - 48))) T tn b y o := ES.m hD
    have fD6 : FrE (st M 146 11 (zI ((sg T tn (b : Int)) - 48))) M := FrE.tr FrE.rf FrE.m
    have hD7 : ES (st (st M 146 11 (zI ((sg T tn (b : Int)) - 48))) 146 9 (zI (((b + 1) : Nat) : Int))) T tn (b + 1) y o := ES.at hD6 (by omega)
    have fD7 : FrE (st (st M 146 11 (zI ((sg T tn (b : Int)) - 48))) 146 9 (zI (((b + 1) : Nat) : Int))) M := FrE.tr fD6 FrE.a
    refine x_Vi F w (As := []) (rest := []) (a := 146) (kd_lt (a := 146) (show kd 146 = (12, 0, 0) from rfl) (by decide)) (sh_12 rfl _ _) rfl (t_here hT hD7.1 (A := (b + 1)) hD7.2.1 (by omega)) ugv_X12_175 uhv_X12_here ⟨(Nat.le_of_ble_eq_true rfl), (Nat.le_of_ble_eq_true rfl)⟩ hl.1 rfl (Nat.le_of_ble_eq_true rfl) ⟨Nat.zero_le _, Nat.zero_le _⟩ udX12_readsNumber_39 (fun H locs w => ?_)
    have hg7 := sg_rg hT (((b + 1) : Nat) : Int)
    have hh7 := sg_c (T := T) (N := tn) (b + 1)
    have ht7 := hT.2 (b + 1)
    refine k_Si F w (As := [.int (zI (sg T tn (((b + 1) : Nat) : Int)))]) (rest := []) (t_isDigit (z := (sg T tn (((b + 1) : Nat) : Int))) (by omega)) ugs_X12_182 uhs_X12_isDigit ⟨(Nat.le_of_ble_eq_true rfl), (Nat.le_of_ble_eq_true rfl)⟩ hl.1 rfl (Nat.le_of_ble_eq_true rfl) ⟨Nat.zero_le _, Nat.zero_le _⟩ udX12_readsNumber_42 (fun r Ma10 H locs hp w => ?_)
    rcases hp with ⟨⟨hb9, rfl⟩ | ⟨hb9, rfl⟩, hMe⟩
    · rw [hMe] at w
      refine z_if_eq (tgt := 77) hx hb (by omega) udX12_readsNumber_45 (by decide) (fun c11 => False.elim (by omega)) (fun c11 => ?_)
      refine lv_aload_n hx hb udX12_readsNumber_48 rfl (lv_at hl 1 rfl) ?_
      refine lv_bipush (v := zI 10) hx hb udX12_readsNumber_49 (by decide) ?_
      refine lv_aload_n hx hb udX12_readsNumber_51 rfl (lv_at hl 1 rfl) ?_
      refine f_12_11 F w (a := 146) rfl utb_102 udX12_readsNumber_52 ?_
      refine r_val (v := (zI ((sg T tn (b : Int)) - 48))) (((st_ne (Or.inr (by decide))).trans st_at)) ?_
      refine z_imul (z := (10 * ((sg T tn (b : Int)) - 48))) hx hb udX12_readsNumber_55 (by omega) ?_
      refine lv_aload_n hx hb udX12_readsNumber_56 rfl (lv_at hl 1 rfl) ?_
      refine x_Vi F w (As := []) (rest := [.int (zI (10 * ((sg T tn (b : Int)) - 48))), .ref (B + 146)]) (a := 146) (kd_lt (a := 146) (show kd 146 = (12, 0, 0) from rfl) (by decide)) (sh_12 rfl _ _) rfl (t_here hT hD7.1 (A := (b + 1)) hD7.2.1 (by omega)) ugv_X12_175 uhv_X12_here ⟨(Nat.le_of_ble_eq_true rfl), (Nat.le_of_ble_eq_true rfl)⟩ hl.1 rfl (Nat.le_of_ble_eq_true rfl) ⟨Nat.zero_le _, Nat.zero_le _⟩ udX12_readsNumber_57 (fun H locs w => ?_)
      have hg11 := sg_rg hT (((b + 1) : Nat) : Int)
      have hh11 := sg_c (T := T) (N := tn) (b + 1)
      have ht11 := hT.2 (b + 1)
      refine z_iadd (z := ((10 * ((sg T tn (b : Int)) - 48)) + (sg T tn (((b + 1) : Nat) : Int)))) hx hb udX12_readsNumber_60 (by omega) ?_
      refine lv_bipush (v := zI 48) hx hb udX12_readsNumber_61 (by decide) ?_
      refine z_isub (z := (((10 * ((sg T tn (b : Int)) - 48)) + (sg T tn (((b + 1) : Nat) : Int))) - 48)) hx hb udX12_readsNumber_63 (by omega) ?_
      refine u_12_11 F w (a := 146) rfl utb_102 udX12_readsNumber_64 (fun H locs w => ?_)
      refine lv_aload_n hx hb udX12_readsNumber_67 rfl (lv_at hl 1 rfl) ?_
      refine lv_dup hx hb udX12_readsNumber_68 rfl ?_
      refine f_12_9 F w (a := 146) rfl utb_96 udX12_readsNumber_69 ?_
      refine r_val (v := (zI (((b + 1) : Nat) : Int))) ((st_ne (Or.inr (by omega))).trans (hD7.2.1)) ?_
      refine lv_iconst (v := zI 1) hx hb udX12_readsNumber_72 rfl ?_
      refine z_iadd (z := ((((b + 1) + 1) : Nat) : Int)) hx hb udX12_readsNumber_73 (by omega) ?_
      refine u_12_9 F w (a := 146) rfl utb_96 udX12_readsNumber_74 (fun H locs w => ?_)
      refine lv_aload_n hx hb udX12_readsNumber_77 rfl (lv_at hl 1 rfl) ?_
      refine f_12_11 F w (a := 146) rfl utb_102 udX12_readsNumber_78 ?_
      refine r_val (v := (zI (((10 * ((sg T tn (b : Int)) - 48)) + (sg T tn (((b + 1) : Nat) : Int))) - 48))) ((st_ne (Or.inr (by omega))).trans st_at) ?_
      refine lv_iload_n hx hb udX12_readsNumber_81 rfl (lv_at hl 2 rfl) ?_
      refine z_icmp_lt (tgt := 92) hx hb (by omega) (by omega) udX12_readsNumber_82 (by decide) (fun c13 => ?_) (fun c13 => ?_)
      · refine lv_aload_n hx hb udX12_readsNumber_92 rfl (lv_at hl 1 rfl) ?_
        have hD14 : ES (st (st (st M 146 11 (zI ((sg T tn (b : Int)) - 48))) 146 9 (zI (((b + 1) : Nat) : Int))) 146 11 (zI (((10 * ((sg T tn (b : Int)) - 48)) + (sg T tn (((b + 1) : Nat) : Int))) - 48))) T tn (b + 1) y o := ES.m hD7
        have fD14 : FrE (st (st (st M 146 11 (zI ((sg T tn (b : Int)) - 48))) 146 9 (zI (((b + 1) : Nat) : Int))) 146 11 (zI (((10 * ((sg T tn (b : Int)) - 48)) + (sg T tn (((b + 1) : Nat) : Int))) - 48))) M := FrE.tr fD7 FrE.m
        have hD15 : ES (st (st (st (st M 146 11 (zI ((sg T tn (b : Int)) - 48))) 146 9 (zI (((b + 1) : Nat) : Int))) 146 11 (zI (((10 * ((sg T tn (b : Int)) - 48)) + (sg T tn (((b + 1) : Nat) : Int))) - 48))) 146 9 (zI ((((b + 1) + 1) : Nat) : Int))) T tn ((b + 1) + 1) y o := ES.at hD14 (by omega)
        have fD15 : FrE (st (st (st (st M 146 11 (zI ((sg T tn (b : Int)) - 48))) 146 9 (zI (((b + 1) : Nat) : Int))) 146 11 (zI (((10 * ((sg T tn (b : Int)) - 48)) + (sg T tn (((b + 1) : Nat) : Int))) - 48))) 146 9 (zI ((((b + 1) + 1) : Nat) : Int))) M := FrE.tr fD14 FrE.a
        refine x_Vi F w (As := []) (rest := []) (a := 146) (kd_lt (a := 146) (show kd 146 = (12, 0, 0) from rfl) (by decide)) (sh_12 rfl _ _) rfl (t_here hT hD15.1 (A := ((b + 1) + 1)) hD15.2.1 (by omega)) ugv_X12_175 uhv_X12_here ⟨(Nat.le_of_ble_eq_true rfl), (Nat.le_of_ble_eq_true rfl)⟩ hl.1 rfl (Nat.le_of_ble_eq_true rfl) ⟨Nat.zero_le _, Nat.zero_le _⟩ udX12_readsNumber_93 (fun H locs w => ?_)
        have hg15 := sg_rg hT ((((b + 1) + 1) : Nat) : Int)
        have hh15 := sg_c (T := T) (N := tn) ((b + 1) + 1)
        have ht15 := hT.2 ((b + 1) + 1)
        refine k_Si F w (As := [.int (zI (sg T tn ((((b + 1) + 1) : Nat) : Int)))]) (rest := []) (t_isDigit (z := (sg T tn ((((b + 1) + 1) : Nat) : Int))) (by omega)) ugs_X12_182 uhs_X12_isDigit ⟨(Nat.le_of_ble_eq_true rfl), (Nat.le_of_ble_eq_true rfl)⟩ hl.1 rfl (Nat.le_of_ble_eq_true rfl) ⟨Nat.zero_le _, Nat.zero_le _⟩ udX12_readsNumber_96 (fun r Ma18 H locs hp w => ?_)
        rcases hp with ⟨⟨hb17, rfl⟩ | ⟨hb17, rfl⟩, hMe⟩
        · rw [hMe] at w
          refine z_if_ne (tgt := 106) hx hb (by omega) udX12_readsNumber_99 (by decide) (fun c19 => ?_) (fun c19 => False.elim (by omega))
          refine lv_iconst (v := zI 0) hx hb udX12_readsNumber_106 rfl ?_
          exact e_z F w hr hlocks (nar_z (by omega)) (Or.inr ⟨Or.inr ⟨_, _, nm_2 (v := Int.toNat (((10 * ((sg T tn (b : Int)) - 48)) + (sg T tn (((b + 1) : Nat) : Int))) - 48)) (by omega) (by omega) (by omega) (by omega), by omega, show 48 ≤ sg T tn ((b + 1 + 1 : Nat) : Int) from by omega, show sg T tn ((b + 1 + 1 : Nat) : Int) ≤ 57 from by omega⟩, rfl, hD15.o, fD15⟩) udX12_readsNumber_107
        · rw [hMe] at w
          refine z_if_ne (tgt := 106) hx hb (by omega) udX12_readsNumber_99 (by decide) (fun c20 => False.elim (by omega)) (fun c20 => ?_)
          refine lv_iconst (v := zI 1) hx hb udX12_readsNumber_102 rfl ?_
          refine lv_goto (tgt := 107) hx hb udX12_readsNumber_103 (by decide) ?_
          exact e_z F w hr hlocks (nar_z (by omega)) (Or.inl ⟨_, _, nm_2 (v := Int.toNat (((10 * ((sg T tn (b : Int)) - 48)) + (sg T tn (((b + 1) : Nat) : Int))) - 48)) (by omega) (by omega) (by omega) (by omega), show ¬ (48 ≤ sg T tn ((b + 1 + 1 : Nat) : Int) ∧ sg T tn ((b + 1 + 1 : Nat) : Int) ≤ 57) from by omega, rfl, (((st_ne (Or.inr (by decide))).trans st_at)).trans (congrArg zI (by omega)), hD15.2.1, by rw [st_ob (by decide)]; rw [st_ob (by decide)]; rw [st_ob (by decide)]; rw [st_ob (by decide)], fD15, by omega, by omega, by omega⟩) udX12_readsNumber_107
      · refine lv_aload_n hx hb udX12_readsNumber_85 rfl (lv_at hl 1 rfl) ?_
        refine lv_iload_n hx hb udX12_readsNumber_86 rfl (lv_at hl 0 rfl) ?_
        refine u_12_9 F w (a := 146) rfl utb_96 udX12_readsNumber_87 (fun H locs w => ?_)
        refine lv_iconst (v := zI 0) hx hb udX12_readsNumber_90 rfl ?_
        have hD21 : ES (st (st (st M 146 11 (zI ((sg T tn (b : Int)) - 48))) 146 9 (zI (((b + 1) : Nat) : Int))) 146 11 (zI (((10 * ((sg T tn (b : Int)) - 48)) + (sg T tn (((b + 1) : Nat) : Int))) - 48))) T tn (b + 1) y o := ES.m hD7
        have fD21 : FrE (st (st (st M 146 11 (zI ((sg T tn (b : Int)) - 48))) 146 9 (zI (((b + 1) : Nat) : Int))) 146 11 (zI (((10 * ((sg T tn (b : Int)) - 48)) + (sg T tn (((b + 1) : Nat) : Int))) - 48))) M := FrE.tr fD7 FrE.m
        have hD22 : ES (st (st (st (st M 146 11 (zI ((sg T tn (b : Int)) - 48))) 146 9 (zI (((b + 1) : Nat) : Int))) 146 11 (zI (((10 * ((sg T tn (b : Int)) - 48)) + (sg T tn (((b + 1) : Nat) : Int))) - 48))) 146 9 (zI ((((b + 1) + 1) : Nat) : Int))) T tn ((b + 1) + 1) y o := ES.at hD21 (by omega)
        have fD22 : FrE (st (st (st (st M 146 11 (zI ((sg T tn (b : Int)) - 48))) 146 9 (zI (((b + 1) : Nat) : Int))) 146 11 (zI (((10 * ((sg T tn (b : Int)) - 48)) + (sg T tn (((b + 1) : Nat) : Int))) - 48))) 146 9 (zI ((((b + 1) + 1) : Nat) : Int))) M := FrE.tr fD21 FrE.a
        have hD23 : ES (st (st (st (st (st M 146 11 (zI ((sg T tn (b : Int)) - 48))) 146 9 (zI (((b + 1) : Nat) : Int))) 146 11 (zI (((10 * ((sg T tn (b : Int)) - 48)) + (sg T tn (((b + 1) : Nat) : Int))) - 48))) 146 9 (zI ((((b + 1) + 1) : Nat) : Int))) 146 9 (zI (b : Int))) T tn b y o := ES.at hD22 (by omega)
        have fD23 : FrE (st (st (st (st (st M 146 11 (zI ((sg T tn (b : Int)) - 48))) 146 9 (zI (((b + 1) : Nat) : Int))) 146 11 (zI (((10 * ((sg T tn (b : Int)) - 48)) + (sg T tn (((b + 1) : Nat) : Int))) - 48))) 146 9 (zI ((((b + 1) + 1) : Nat) : Int))) 146 9 (zI (b : Int))) M := FrE.tr fD22 FrE.a
        exact e_z F w hr hlocks (nar_z (by omega)) (Or.inr ⟨Or.inl (nm_2n (by omega) (by omega) (by omega)), rfl, hD23.o, fD23⟩) udX12_readsNumber_91
    · rw [hMe] at w
      refine z_if_eq (tgt := 77) hx hb (by omega) udX12_readsNumber_45 (by decide) (fun c24 => ?_) (fun c24 => False.elim (by omega))
      refine lv_aload_n hx hb udX12_readsNumber_77 rfl (lv_at hl 1 rfl) ?_
      refine f_12_11 F w (a := 146) rfl utb_102 udX12_readsNumber_78 ?_
      refine r_val (v := (zI ((sg T tn (b : Int)) - 48))) (((st_ne (Or.inr (by decide))).trans st_at)) ?_
      refine lv_iload_n hx hb udX12_readsNumber_81 rfl (lv_at hl 2 rfl) ?_
      refine z_icmp_lt (tgt := 92) hx hb (by omega) (by omega) udX12_readsNumber_82 (by decide) (fun c25 => ?_) (fun c25 => ?_)
      · refine lv_aload_n hx hb udX12_readsNumber_92 rfl (lv_at hl 1 rfl) ?_
        refine x_Vi F w (As := []) (rest := []) (a := 146) (kd_lt (a := 146) (show kd 146 = (12, 0, 0) from rfl) (by decide)) (sh_12 rfl _ _) rfl (t_here hT hD7.1 (A := (b + 1)) hD7.2.1 (by omega)) ugv_X12_175 uhv_X12_here ⟨(Nat.le_of_ble_eq_true rfl), (Nat.le_of_ble_eq_true rfl)⟩ hl.1 rfl (Nat.le_of_ble_eq_true rfl) ⟨Nat.zero_le _, Nat.zero_le _⟩ udX12_readsNumber_93 (fun H locs w => ?_)
        have hg25 := sg_rg hT (((b + 1) : Nat) : Int)
        have hh25 := sg_c (T := T) (N := tn) (b + 1)
        have ht25 := hT.2 (b + 1)
        refine k_Si F w (As := [.int (zI (sg T tn (((b + 1) : Nat) : Int)))]) (rest := []) (t_isDigit (z := (sg T tn (((b + 1) : Nat) : Int))) (by omega)) ugs_X12_182 uhs_X12_isDigit ⟨(Nat.le_of_ble_eq_true rfl), (Nat.le_of_ble_eq_true rfl)⟩ hl.1 rfl (Nat.le_of_ble_eq_true rfl) ⟨Nat.zero_le _, Nat.zero_le _⟩ udX12_readsNumber_96 (fun r Ma28 H locs hp w => ?_)
        rcases hp with ⟨⟨hb27, rfl⟩ | ⟨hb27, rfl⟩, hMe⟩
        · rw [hMe] at w
          refine z_if_ne (tgt := 106) hx hb (by omega) udX12_readsNumber_99 (by decide) (fun c29 => ?_) (fun c29 => False.elim (by omega))
          refine lv_iconst (v := zI 0) hx hb udX12_readsNumber_106 rfl ?_
          exact e_z F w hr hlocks (nar_z (by omega)) (Or.inr ⟨Or.inr ⟨_, _, nm_1 (v := Int.toNat ((sg T tn (b : Int)) - 48)) (by omega) (by omega) (by omega) (by omega), by omega, show 48 ≤ sg T tn ((b + 1 : Nat) : Int) from by omega, show sg T tn ((b + 1 : Nat) : Int) ≤ 57 from by omega⟩, rfl, hD7.o, fD7⟩) udX12_readsNumber_107
        · rw [hMe] at w
          refine z_if_ne (tgt := 106) hx hb (by omega) udX12_readsNumber_99 (by decide) (fun c30 => False.elim (by omega)) (fun c30 => ?_)
          refine lv_iconst (v := zI 1) hx hb udX12_readsNumber_102 rfl ?_
          refine lv_goto (tgt := 107) hx hb udX12_readsNumber_103 (by decide) ?_
          exact e_z F w hr hlocks (nar_z (by omega)) (Or.inl ⟨_, _, nm_1 (v := Int.toNat ((sg T tn (b : Int)) - 48)) (by omega) (by omega) (by omega) (by omega), show ¬ (48 ≤ sg T tn ((b + 1 : Nat) : Int) ∧ sg T tn ((b + 1 : Nat) : Int) ≤ 57) from by omega, rfl, (((st_ne (Or.inr (by decide))).trans st_at)).trans (congrArg zI (by omega)), hD7.2.1, by rw [st_ob (by decide)]; rw [st_ob (by decide)], fD7, by omega, by omega, by omega⟩) udX12_readsNumber_107
      · refine lv_aload_n hx hb udX12_readsNumber_85 rfl (lv_at hl 1 rfl) ?_
        refine lv_iload_n hx hb udX12_readsNumber_86 rfl (lv_at hl 0 rfl) ?_
        refine u_12_9 F w (a := 146) rfl utb_96 udX12_readsNumber_87 (fun H locs w => ?_)
        refine lv_iconst (v := zI 0) hx hb udX12_readsNumber_90 rfl ?_
        have hD31 : ES (st (st (st M 146 11 (zI ((sg T tn (b : Int)) - 48))) 146 9 (zI (((b + 1) : Nat) : Int))) 146 9 (zI (b : Int))) T tn b y o := ES.at hD7 (by omega)
        have fD31 : FrE (st (st (st M 146 11 (zI ((sg T tn (b : Int)) - 48))) 146 9 (zI (((b + 1) : Nat) : Int))) 146 9 (zI (b : Int))) M := FrE.tr fD7 FrE.a
        exact e_z F w hr hlocks (nar_z (by omega)) (Or.inr ⟨Or.inl (nm_1n (by omega) (by omega) (by omega)), rfl, hD31.o, fD31⟩) udX12_readsNumber_91
  · rw [hMe] at w
    refine z_if_ne (tgt := 17) hx hb (by omega) udX12_readsNumber_12 (by decide) (fun c32 => False.elim (by omega)) (fun c32 => ?_)
    refine lv_iconst (v := zI 0) hx hb udX12_readsNumber_15 rfl ?_
    exact e_z F w hr hlocks (nar_z (by omega)) (Or.inr ⟨Or.inl (nm_0 (by omega)), rfl, hD.o, FrE.rf⟩) udX12_readsNumber_16
theorem udX12_readsLines_4 : decode cX12_readsLines 4 = .ok (.aload_n 0, 1) := dq0 kk_42 (by decide +kernel)
theorem udX12_readsLines_5 : decode cX12_readsLines 5 = .ok (.getfield 172, 3) := dqV kk_180 (by decide +kernel)
theorem udX12_readsLines_8 : decode cX12_readsLines 8 = .ok (.aload_n 0, 1) := dq0 kk_42 (by decide +kernel)
theorem udX12_readsLines_9 : decode cX12_readsLines 9 = .ok (.getfield 169, 3) := dqV kk_180 (by decide +kernel)
theorem utb_103 : Cond.fieldLink "ToneLinesModel" 169 "ToneLinesModel" "taped" "I" ∈ TB := rtb_121
theorem udX12_readsLines_12 : decode cX12_readsLines 12 = .ok (.if_icmp .ge 142, 3) := dqT kk_162 (by decide +kernel)
theorem udX12_readsLines_15 : decode cX12_readsLines 15 = .ok (.aload_n 0, 1) := dq0 kk_42 (by decide +kernel)
theorem udX12_readsLines_16 : decode cX12_readsLines 16 = .ok (.getfield 172, 3) := dqV kk_180 (by decide +kernel)
theorem udX12_readsLines_19 : decode cX12_readsLines 19 = .ok (.istore_n 1, 1) := dq0 kk_60 (by decide +kernel)
theorem udX12_readsLines_20 : decode cX12_readsLines 20 = .ok (.aload_n 0, 1) := dq0 kk_42 (by decide +kernel)
theorem udX12_readsLines_21 : decode cX12_readsLines 21 = .ok (.aload_n 0, 1) := dq0 kk_42 (by decide +kernel)
theorem udX12_readsLines_22 : decode cX12_readsLines 22 = .ok (.getfield 26, 3) := dqV kk_180 (by decide +kernel)
theorem udX12_readsLines_25 : decode cX12_readsLines 25 = .ok (.iconst 0, 1) := dq0 kk_3 (by decide +kernel)
theorem udX12_readsLines_26 : decode cX12_readsLines 26 = .ok (.iaload, 1) := dq0 kk_46 (by decide +kernel)
theorem udX12_readsLines_27 : decode cX12_readsLines 27 = .ok (.invokevirtual 188, 3) := dqV kk_182 (by decide +kernel)
theorem utk_X12_readsNumber : Cond.code yX12_readsNumber cX12_readsNumber 3 (some .boolean) ∈ TB := tbm (tc5 (List.mem_of_getElem? (i := 179) rfl)) rfl
theorem ugc_X12_readsNumber : GoodIn TB (cw yX12_readsNumber cX12_readsNumber 3 (some .boolean)) := goodIn_c2 utk_X12_readsNumber
theorem utb_104 : Cond.methodLink "ToneLinesModel" 188 yX12_readsNumber ∈ TB := tbm (tc5 (List.mem_of_getElem? (i := 176) rfl)) rfl
theorem utb_105 : Cond.instanceMethod yX12_readsNumber ∈ TB := tbm (tc5 (List.mem_of_getElem? (i := 178) rfl)) rfl
theorem utb_106 : Cond.selects "ToneLinesModel" yX12_readsNumber yX12_readsNumber ∈ TB := tbp (List.mem_of_getElem? (i := 42) rfl) rfl
theorem ugv_X12_188 : GoodIn TB (wsV RX12 188 RX12 yX12_readsNumber (cw yX12_readsNumber cX12_readsNumber 3 (some .boolean))) := goodIn_4 utb_104 utb_105 utb_106 utb_92 ugc_X12_readsNumber
theorem uhv_X12_readsNumber : yX12_readsNumber.cls = RX12 ∧ yX12_readsNumber.cls ≠ "java/lang/invoke/MethodHandle" ∧ yX12_readsNumber.cls ≠ "java/lang/invoke/VarHandle" ∧ (parseMethodDescriptor yX12_readsNumber.desc).map (fun d => d.parameters.length) = some 1 := by decide +kernel
theorem udX12_readsLines_30 : decode cX12_readsLines 30 = .ok (.ifCond .ne 5, 3) := dqT kk_154 (by decide +kernel)
theorem udX12_readsLines_35 : decode cX12_readsLines 35 = .ok (.aload_n 0, 1) := dq0 kk_42 (by decide +kernel)
theorem udX12_readsLines_36 : decode cX12_readsLines 36 = .ok (.getfield 185, 3) := dqV kk_180 (by decide +kernel)
theorem udX12_readsLines_39 : decode cX12_readsLines 39 = .ok (.istore_n 2, 1) := dq0 kk_61 (by decide +kernel)
theorem udX12_readsLines_40 : decode cX12_readsLines 40 = .ok (.aload_n 0, 1) := dq0 kk_42 (by decide +kernel)
theorem udX12_readsLines_41 : decode cX12_readsLines 41 = .ok (.invokevirtual 179, 3) := dqV kk_182 (by decide +kernel)
theorem udX12_readsLines_44 : decode cX12_readsLines 44 = .ok (.aload_n 0, 1) := dq0 kk_42 (by decide +kernel)
theorem udX12_readsLines_45 : decode cX12_readsLines 45 = .ok (.invokevirtual 175, 3) := dqV kk_182 (by decide +kernel)
theorem udX12_readsLines_48 : decode cX12_readsLines 48 = .ok (.bipush 58, 2) := dqS kk_16 (by decide +kernel)
theorem udX12_readsLines_50 : decode cX12_readsLines 50 = .ok (.if_icmp .eq 5, 3) := dqT kk_159 (by decide +kernel)
theorem udX12_readsLines_55 : decode cX12_readsLines 55 = .ok (.aload_n 0, 1) := dq0 kk_42 (by decide +kernel)
theorem udX12_readsLines_56 : decode cX12_readsLines 56 = .ok (.dup, 1) := dq0 kk_89 (by decide +kernel)
theorem udX12_readsLines_57 : decode cX12_readsLines 57 = .ok (.getfield 172, 3) := dqV kk_180 (by decide +kernel)
theorem udX12_readsLines_60 : decode cX12_readsLines 60 = .ok (.iconst 1, 1) := dq0 kk_4 (by decide +kernel)
theorem udX12_readsLines_61 : decode cX12_readsLines 61 = .ok (.iadd, 1) := dq0 kk_96 (by decide +kernel)
theorem udX12_readsLines_62 : decode cX12_readsLines 62 = .ok (.putfield 172, 3) := dqV kk_181 (by decide +kernel)
theorem udX12_readsLines_65 : decode cX12_readsLines 65 = .ok (.aload_n 0, 1) := dq0 kk_42 (by decide +kernel)
theorem udX12_readsLines_66 : decode cX12_readsLines 66 = .ok (.invokevirtual 179, 3) := dqV kk_182 (by decide +kernel)
theorem udX12_readsLines_69 : decode cX12_readsLines 69 = .ok (.aload_n 0, 1) := dq0 kk_42 (by decide +kernel)
theorem udX12_readsLines_70 : decode cX12_readsLines 70 = .ok (.aload_n 0, 1) := dq0 kk_42 (by decide +kernel)
theorem udX12_readsLines_71 : decode cX12_readsLines 71 = .ok (.getfield 26, 3) := dqV kk_180 (by decide +kernel)
theorem udX12_readsLines_74 : decode cX12_readsLines 74 = .ok (.bipush 25, 2) := dqS kk_16 (by decide +kernel)
theorem udX12_readsLines_76 : decode cX12_readsLines 76 = .ok (.iaload, 1) := dq0 kk_46 (by decide +kernel)
theorem udX12_readsLines_77 : decode cX12_readsLines 77 = .ok (.invokevirtual 188, 3) := dqV kk_182 (by decide +kernel)
theorem udX12_readsLines_80 : decode cX12_readsLines 80 = .ok (.ifCond .ne 5, 3) := dqT kk_154 (by decide +kernel)
theorem udX12_readsLines_85 : decode cX12_readsLines 85 = .ok (.aload_n 0, 1) := dq0 kk_42 (by decide +kernel)
theorem udX12_readsLines_86 : decode cX12_readsLines 86 = .ok (.getfield 26, 3) := dqV kk_180 (by decide +kernel)
theorem udX12_readsLines_89 : decode cX12_readsLines 89 = .ok (.iload_n 2, 1) := dq0 kk_28 (by decide +kernel)
theorem udX12_readsLines_90 : decode cX12_readsLines 90 = .ok (.aload_n 0, 1) := dq0 kk_42 (by decide +kernel)
theorem udX12_readsLines_91 : decode cX12_readsLines 91 = .ok (.getfield 185, 3) := dqV kk_180 (by decide +kernel)
theorem udX12_readsLines_94 : decode cX12_readsLines 94 = .ok (.invokestatic 86, 3) := dqV kk_184 (by decide +kernel)
theorem utk_X12_isOpen : Cond.code yX12_isOpen cX12_isOpen 5 (some .boolean) ∈ TB := tk_X12_isOpen
theorem ugc_X12_isOpen : GoodIn TB (cw yX12_isOpen cX12_isOpen 5 (some .boolean)) := goodIn_c2 utk_X12_isOpen
theorem utb_107 : Cond.methodLink "ToneLinesModel" 86 yX12_isOpen ∈ TB := tb_54
theorem utb_108 : Cond.static yX12_isOpen ∈ TB := tb_55
theorem ugs_X12_86 : GoodIn TB (va_wsS RX12 86 yX12_isOpen (cw yX12_isOpen cX12_isOpen 5 (some .boolean))) := goodIn_3 utb_107 utb_108 utb_92 ugc_X12_isOpen
theorem uhs_X12_isOpen : yX12_isOpen.cls ≠ "java/lang/invoke/MethodHandle" ∧ yX12_isOpen.cls ≠ "java/lang/invoke/VarHandle" ∧ (parseMethodDescriptor yX12_isOpen.desc).map (fun d => d.parameters.length) = some 3 := hs_X12_isOpen
theorem udX12_readsLines_97 : decode cX12_readsLines 97 = .ok (.ifCond .ne 10, 3) := dqT kk_154 (by decide +kernel)
theorem udX12_readsLines_107 : decode cX12_readsLines 107 = .ok (.aload_n 0, 1) := dq0 kk_42 (by decide +kernel)
theorem udX12_readsLines_108 : decode cX12_readsLines 108 = .ok (.getfield 172, 3) := dqV kk_180 (by decide +kernel)
theorem udX12_readsLines_111 : decode cX12_readsLines 111 = .ok (.aload_n 0, 1) := dq0 kk_42 (by decide +kernel)
theorem udX12_readsLines_112 : decode cX12_readsLines 112 = .ok (.getfield 169, 3) := dqV kk_180 (by decide +kernel)
theorem udX12_readsLines_115 : decode cX12_readsLines 115 = .ok (.if_icmp .ge 14, 3) := dqT kk_162 (by decide +kernel)
theorem udX12_readsLines_129 : decode cX12_readsLines 129 = .ok (.aload_n 0, 1) := dq0 kk_42 (by decide +kernel)
theorem udX12_readsLines_130 : decode cX12_readsLines 130 = .ok (.getfield 26, 3) := dqV kk_180 (by decide +kernel)
theorem udX12_readsLines_133 : decode cX12_readsLines 133 = .ok (.bipush 13, 2) := dqS kk_16 (by decide +kernel)
theorem udX12_readsLines_135 : decode cX12_readsLines 135 = .ok (.iload_n 2, 1) := dq0 kk_28 (by decide +kernel)
theorem udX12_readsLines_136 : decode cX12_readsLines 136 = .ok (.iadd, 1) := dq0 kk_96 (by decide +kernel)
theorem udX12_readsLines_137 : decode cX12_readsLines 137 = .ok (.dup2, 1) := dq0 kk_92 (by decide +kernel)
theorem udX12_readsLines_138 : decode cX12_readsLines 138 = .ok (.iaload, 1) := dq0 kk_46 (by decide +kernel)
theorem udX12_readsLines_139 : decode cX12_readsLines 139 = .ok (.iconst 1, 1) := dq0 kk_4 (by decide +kernel)
theorem udX12_readsLines_140 : decode cX12_readsLines 140 = .ok (.aload_n 0, 1) := dq0 kk_42 (by decide +kernel)
theorem udX12_readsLines_141 : decode cX12_readsLines 141 = .ok (.getfield 185, 3) := dqV kk_180 (by decide +kernel)
theorem udX12_readsLines_144 : decode cX12_readsLines 144 = .ok (.ishl, 1) := dq0 kk_120 (by decide +kernel)
theorem udX12_readsLines_145 : decode cX12_readsLines 145 = .ok (.ior, 1) := dq0 kk_128 (by decide +kernel)
theorem udX12_readsLines_146 : decode cX12_readsLines 146 = .ok (.iastore, 1) := dq0 kk_79 (by decide +kernel)
theorem udX12_readsLines_147 : decode cX12_readsLines 147 = .ok (.aload_n 0, 1) := dq0 kk_42 (by decide +kernel)
theorem udX12_readsLines_148 : decode cX12_readsLines 148 = .ok (.invokevirtual 179, 3) := dqV kk_182 (by decide +kernel)
theorem udX12_readsLines_151 : decode cX12_readsLines 151 = .ok (.goto (-147), 3) := dqT kk_167 (by decide +kernel)
theorem udX12_readsLines_118 : decode cX12_readsLines 118 = .ok (.aload_n 0, 1) := dq0 kk_42 (by decide +kernel)
theorem udX12_readsLines_119 : decode cX12_readsLines 119 = .ok (.invokevirtual 175, 3) := dqV kk_182 (by decide +kernel)
theorem udX12_readsLines_122 : decode cX12_readsLines 122 = .ok (.bipush 32, 2) := dqS kk_16 (by decide +kernel)
theorem udX12_readsLines_124 : decode cX12_readsLines 124 = .ok (.if_icmp .eq 5, 3) := dqT kk_159 (by decide +kernel)
theorem udX12_readsLines_127 : decode cX12_readsLines 127 = .ok (.iconst 0, 1) := dq0 kk_3 (by decide +kernel)
theorem udX12_readsLines_128 : decode cX12_readsLines 128 = .ok (.ireturn, 1) := dq0 kk_172 (by decide +kernel)
theorem udX12_readsLines_100 : decode cX12_readsLines 100 = .ok (.aload_n 0, 1) := dq0 kk_42 (by decide +kernel)
theorem udX12_readsLines_101 : decode cX12_readsLines 101 = .ok (.iload_n 1, 1) := dq0 kk_27 (by decide +kernel)
theorem udX12_readsLines_102 : decode cX12_readsLines 102 = .ok (.putfield 172, 3) := dqV kk_181 (by decide +kernel)
theorem udX12_readsLines_105 : decode cX12_readsLines 105 = .ok (.iconst 0, 1) := dq0 kk_3 (by decide +kernel)
theorem udX12_readsLines_106 : decode cX12_readsLines 106 = .ok (.ireturn, 1) := dq0 kk_172 (by decide +kernel)
theorem udX12_readsLines_83 : decode cX12_readsLines 83 = .ok (.iconst 0, 1) := dq0 kk_3 (by decide +kernel)
theorem udX12_readsLines_84 : decode cX12_readsLines 84 = .ok (.ireturn, 1) := dq0 kk_172 (by decide +kernel)
theorem udX12_readsLines_53 : decode cX12_readsLines 53 = .ok (.iconst 0, 1) := dq0 kk_3 (by decide +kernel)
theorem udX12_readsLines_54 : decode cX12_readsLines 54 = .ok (.ireturn, 1) := dq0 kk_172 (by decide +kernel)
theorem udX12_readsLines_33 : decode cX12_readsLines 33 = .ok (.iconst 0, 1) := dq0 kk_3 (by decide +kernel)
theorem udX12_readsLines_34 : decode cX12_readsLines 34 = .ok (.ireturn, 1) := dq0 kk_172 (by decide +kernel)
set_option maxRecDepth 4000 in
theorem lp_X12_rlines {p : Program} {l : Launch} {e : Env} {s : State} {m : MethodId} {args : Array Value} {below : List Frame} {meth : Method} {c : Code} {D : va_G} {B : Nat} {cy : Nat → ClassId}  {M : Mem} {R : Room} {T : Nat → Nat} {tn b : Nat} {y : Sy} {o : Wo} (F : CallFix p m c cX12_readsLines 3 s args TB RX12) (hr : meth.sig.returnType = (some .boolean)) (hlocks : meth.locks = false) (hR1 : 3 ≤ R.frames) (hR2 : 66 ≤ R.locals) (hT : okT T tn) (kk : ∀ (i : Nat) (Nm : Mem) (o1 : Wo) (fu : Nat) (H : Heap) (locs : List Loc) (ls : Array Slot), (rlnF T tn y.1 301 (sk T tn b) o = some o1) → (ES Nm T tn i y o1) → (FrE Nm M) → Wd D B cy s s.heap Nm H locs → lv_has ls 3 [(0, .ref (B + 146))] → W p l e R s m args below meth c H locs 0 0 (MQ below (va_Qi (fun r M1 => ELQ T tn (rlnF T tn y.1 301 (sk T tn b) o) y M r M1) (fun M2 t2 => Wp D B cy M2 t2) (fun q2 => B ≤ q2)) args s 0 0 (fun q2 => B ≤ q2)) (F0 m 154 ls [])) : ∀ (f : Nat) (i : Nat) (Nm : Mem) (o1 : Wo) (fu : Nat), (ES Nm T tn i y o1) → (rlnF T tn y.1 fu i o1 = rlnF T tn y.1 301 (sk T tn b) o) → (FrE Nm M) → (tn ≤ i + fu) → (tn ≤ i + f) → ∀ (H : Heap) (locs : List Loc) (ls : Array Slot), Wd D B cy s s.heap Nm H locs → lv_has ls 3 [(0, .ref (B + 146))] → W p l e R s m args below meth c H locs 0 0 (MQ below (va_Qi (fun r M1 => ELQ T tn (rlnF T tn y.1 301 (sk T tn b) o) y M r M1) (fun M2 t2 => Wp D B cy M2 t2) (fun q2 => B ≤ q2)) args s 0 0 (fun q2 => B ≤ q2)) (F0 m 4 ls []) := by
  have hx := F.1
  have hb := F.2.1
  have hN := hT.1
  intro f
  induction f with
  | zero =>
    intro i Nm o1 fu i0 i1 i2 i3 hf H locs ls w hl
    have hiN := i0.2.2.1
    have hq12 := i0.2.2.2.2.1.2.1
    have hn12 := i0.2.2.2.2.1.1
    refine lv_aload_n hx hb udX12_readsLines_4 rfl (lv_at hl 0 rfl) ?_
    refine f_12_9 F w (a := 146) rfl utb_96 udX12_readsLines_5 ?_
    refine r_val (v := (zI (i : Int))) (i0.2.1) ?_
    refine lv_aload_n hx hb udX12_readsLines_8 rfl (lv_at hl 0 rfl) ?_
    refine f_12_8 F w (a := 146) rfl utb_103 udX12_readsLines_9 ?_
    refine r_val (v := (zI (tn : Int))) (i0.1.1) ?_
    refine z_icmp_ge (tgt := 154) hx hb (by omega) (by omega) udX12_readsLines_12 (by decide) (fun c1 => ?_) (fun c1 => False.elim (by omega))
    exact kk i Nm o1 fu _ _ ls (i1.symm.trans (rl_e (by omega))) i0 i2 w (lv_sub hl [0] rfl)
  | succ f ih =>
    intro i Nm o1 fu i0 i1 i2 i3 hf H locs ls w hl
    have hiN := i0.2.2.1
    have hq12 := i0.2.2.2.2.1.2.1
    have hn12 := i0.2.2.2.2.1.1
    refine lv_aload_n hx hb udX12_readsLines_4 rfl (lv_at hl 0 rfl) ?_
    refine f_12_9 F w (a := 146) rfl utb_96 udX12_readsLines_5 ?_
    refine r_val (v := (zI (i : Int))) (i0.2.1) ?_
    refine lv_aload_n hx hb udX12_readsLines_8 rfl (lv_at hl 0 rfl) ?_
    refine f_12_8 F w (a := 146) rfl utb_103 udX12_readsLines_9 ?_
    refine r_val (v := (zI (tn : Int))) (i0.1.1) ?_
    refine z_icmp_ge (tgt := 154) hx hb (by omega) (by omega) udX12_readsLines_12 (by decide) (fun c1 => ?_) (fun c1 => ?_)
    · exact kk i Nm o1 fu _ _ ls (i1.symm.trans (rl_e (by omega))) i0 i2 w (lv_sub hl [0] rfl)
    · refine lv_aload_n hx hb udX12_readsLines_15 rfl (lv_at hl 0 rfl) ?_
      refine f_12_9 F w (a := 146) rfl utb_96 udX12_readsLines_16 ?_
      refine r_val (v := (zI (i : Int))) (i0.2.1) ?_
      refine lv_istore_n (lv' := [(1, .int (zI (i : Int))), (0, .ref (B + 146))]) hx hb udX12_readsLines_19 rfl hl (by decide) rfl (fun ls hl => ?_)
      refine lv_aload_n hx hb udX12_readsLines_20 rfl (lv_at hl 1 rfl) ?_
      refine lv_aload_n hx hb udX12_readsLines_21 rfl (lv_at hl 1 rfl) ?_
      refine f_12_10 F w (a := 146) rfl utb_93 udX12_readsLines_22 ?_
      refine lv_iconst (v := zI 0) hx hb udX12_readsLines_25 rfl ?_
      refine g_iald F w (a := 151) rfl (j := 0) ⟨by decide, by decide⟩ (by omega) udX12_readsLines_26 ?_
      have hn1 := i0.2.2.2.2.1.1
      refine r_val (v := (zI ((o1.1 : Nat) : Int))) (i0.2.2.2.1.1) ?_
      refine k_Vi F w (As := [.int (zI ((o1.1 : Nat) : Int))]) (rest := []) (a := 146) (kd_lt (a := 146) (show kd 146 = (12, 0, 0) from rfl) (by decide)) (sh_12 rfl _ _) rfl (t_readsNumber hT i0 (bl := o1.1) (by omega)) ugv_X12_188 uhv_X12_readsNumber ⟨(by omega), (by omega)⟩ hl.1 rfl (Nat.le_of_ble_eq_true rfl) ⟨Nat.zero_le _, Nat.zero_le _⟩ udX12_readsLines_27 (fun r Ma3 H locs hp w => ?_)
      rcases hp with ⟨v2, jv2, ev2, dv2, rfl, mv2, av2, wv2, fv2, hv2, gv2, lv2⟩ | ⟨ev2, rfl, ov2, fv2⟩
      · have hDv2 : ES Ma3 T tn jv2 y o1 := ES.n i0 fv2 wv2 av2 lv2
        have fDv2 : FrE Ma3 M := FrE.tr i2 fv2
        refine z_if_ne (tgt := 35) hx hb (by omega) udX12_readsLines_30 (by decide) (fun c4 => ?_) (fun c4 => False.elim (by omega))
        refine lv_aload_n hx hb udX12_readsLines_35 rfl (lv_at hl 1 rfl) ?_
        refine f_12_11 F w (a := 146) rfl utb_102 udX12_readsLines_36 ?_
        refine r_val (v := (zI (v2 : Int))) (mv2) ?_
        refine lv_istore_n (lv' := [(2, .int (zI (v2 : Int))), (1, .int (zI (i : Int))), (0, .ref (B + 146))]) hx hb udX12_readsLines_39 rfl hl (by decide) rfl (fun ls hl => ?_)
        refine lv_aload_n hx hb udX12_readsLines_40 rfl (lv_at hl 2 rfl) ?_
        refine k_Vv F w (As := []) (rest := []) (a := 146) (kd_lt (a := 146) (show kd 146 = (12, 0, 0) from rfl) (by decide)) (sh_12 rfl _ _) rfl (t_blanks hT hDv2.1 hDv2.2.1 hDv2.2.2.1) ugv_X12_179 uhv_X12_blanks ⟨(by omega), (by omega)⟩ hl.1 rfl (Nat.le_of_ble_eq_true rfl) ⟨Nat.zero_le _, Nat.zero_le _⟩ udX12_readsLines_41 (fun Ma6 H locs hp w => ?_)
        rcases hp with ⟨hB5, gB5⟩
        have hkB5 := sk_le (T := T) (N := tn) (i := jv2) (by omega)
        have hDB5 : ES Ma6 T tn (sk T tn jv2) y o1 := ES.b hDv2 gB5 hB5 (by omega)
        have fDB5 : FrE Ma6 M := FrE.tr fDv2 (FrE.n9 gB5)
        refine lv_aload_n hx hb udX12_readsLines_44 rfl (lv_at hl 2 rfl) ?_
        refine x_Vi F w (As := []) (rest := []) (a := 146) (kd_lt (a := 146) (show kd 146 = (12, 0, 0) from rfl) (by decide)) (sh_12 rfl _ _) rfl (t_here hT hDB5.1 (A := (sk T tn jv2)) hDB5.2.1 (by omega)) ugv_X12_175 uhv_X12_here ⟨(by omega), (by omega)⟩ hl.1 rfl (Nat.le_of_ble_eq_true rfl) ⟨Nat.zero_le _, Nat.zero_le _⟩ udX12_readsLines_45 (fun H locs w => ?_)
        have hg6 := sg_rg hT (((sk T tn jv2) : Nat) : Int)
        have hh6 := sg_c (T := T) (N := tn) (sk T tn jv2)
        have ht6 := hT.2 (sk T tn jv2)
        refine lv_bipush (v := zI 58) hx hb udX12_readsLines_48 (by decide) ?_
        refine z_icmp_eq (tgt := 55) hx hb (by omega) (by omega) udX12_readsLines_50 (by decide) (fun c8 => ?_) (fun c8 => ?_)
        · refine lv_aload_n hx hb udX12_readsLines_55 rfl (lv_at hl 2 rfl) ?_
          refine lv_dup hx hb udX12_readsLines_56 rfl ?_
          refine f_12_9 F w (a := 146) rfl utb_96 udX12_readsLines_57 ?_
          refine r_val (v := (zI (((sk T tn jv2) : Nat) : Int))) (hDB5.2.1) ?_
          refine lv_iconst (v := zI 1) hx hb udX12_readsLines_60 rfl ?_
          refine z_iadd (z := ((((sk T tn jv2) + 1) : Nat) : Int)) hx hb udX12_readsLines_61 (by omega) ?_
          refine u_12_9 F w (a := 146) rfl utb_96 udX12_readsLines_62 (fun H locs w => ?_)
          refine lv_aload_n hx hb udX12_readsLines_65 rfl (lv_at hl 2 rfl) ?_
          have hD9 : ES (st Ma6 146 9 (zI ((((sk T tn jv2) + 1) : Nat) : Int))) T tn ((sk T tn jv2) + 1) y o1 := ES.at hDB5 (by omega)
          have fD9 : FrE (st Ma6 146 9 (zI ((((sk T tn jv2) + 1) : Nat) : Int))) M := FrE.tr fDB5 FrE.a
          refine k_Vv F w (As := []) (rest := []) (a := 146) (kd_lt (a := 146) (show kd 146 = (12, 0, 0) from rfl) (by decide)) (sh_12 rfl _ _) rfl (t_blanks hT hD9.1 hD9.2.1 hD9.2.2.1) ugv_X12_179 uhv_X12_blanks ⟨(by omega), (by omega)⟩ hl.1 rfl (Nat.le_of_ble_eq_true rfl) ⟨Nat.zero_le _, Nat.zero_le _⟩ udX12_readsLines_66 (fun Ma11 H locs hp w => ?_)
          rcases hp with ⟨hB10, gB10⟩
          have hkB10 := sk_le (T := T) (N := tn) (i := ((sk T tn jv2) + 1)) (by omega)
          have hDB10 : ES Ma11 T tn (sk T tn ((sk T tn jv2) + 1)) y o1 := ES.b hD9 gB10 hB10 (by omega)
          have fDB10 : FrE Ma11 M := FrE.tr fD9 (FrE.n9 gB10)
          refine lv_aload_n hx hb udX12_readsLines_69 rfl (lv_at hl 2 rfl) ?_
          refine lv_aload_n hx hb udX12_readsLines_70 rfl (lv_at hl 2 rfl) ?_
          refine f_12_10 F w (a := 146) rfl utb_93 udX12_readsLines_71 ?_
          refine lv_bipush (v := zI 25) hx hb udX12_readsLines_74 (by decide) ?_
          refine g_iald F w (a := 151) rfl (j := 25) ⟨by decide, by decide⟩ (by omega) udX12_readsLines_76 ?_
          have hq11 := hDB10.2.2.2.2.1.2.1
          refine r_val (v := (zI ((y.1 : Nat) : Int))) (hDB10.2.2.2.1.2.1) ?_
          refine k_Vi F w (As := [.int (zI ((y.1 : Nat) : Int))]) (rest := []) (a := 146) (kd_lt (a := 146) (show kd 146 = (12, 0, 0) from rfl) (by decide)) (sh_12 rfl _ _) rfl (t_readsNumber hT hDB10 (bl := y.1) (by omega)) ugv_X12_188 uhv_X12_readsNumber ⟨(by omega), (by omega)⟩ hl.1 rfl (Nat.le_of_ble_eq_true rfl) ⟨Nat.zero_le _, Nat.zero_le _⟩ udX12_readsLines_77 (fun r Ma13 H locs hp w => ?_)
          rcases hp with ⟨v12, jv12, ev12, dv12, rfl, mv12, av12, wv12, fv12, hv12, gv12, lv12⟩ | ⟨ev12, rfl, ov12, fv12⟩
          · have hDv12 : ES Ma13 T tn jv12 y o1 := ES.n hDB10 fv12 wv12 av12 lv12
            have fDv12 : FrE Ma13 M := FrE.tr fDB10 fv12
            refine z_if_ne (tgt := 85) hx hb (by omega) udX12_readsLines_80 (by decide) (fun c14 => ?_) (fun c14 => False.elim (by omega))
            refine lv_aload_n hx hb udX12_readsLines_85 rfl (lv_at hl 2 rfl) ?_
            refine f_12_10 F w (a := 146) rfl utb_93 udX12_readsLines_86 ?_
            refine lv_iload_n hx hb udX12_readsLines_89 rfl (lv_at hl 0 rfl) ?_
            refine lv_aload_n hx hb udX12_readsLines_90 rfl (lv_at hl 2 rfl) ?_
            refine f_12_11 F w (a := 146) rfl utb_102 udX12_readsLines_91 ?_
            refine r_val (v := (zI (v12 : Int))) (mv12) ?_
            refine k_Si F w (As := [.ref (B + 151), .int (zI (v2 : Int)), .int (zI (v12 : Int))]) (rest := []) (s_X12_isOpen (a := 151) rfl hDv12.2.2.2.1 hDv12.2.2.2.wf (t := v2) (j := v12) (by omega) (by omega)) ugs_X12_86 uhs_X12_isOpen ⟨(by omega), (by omega)⟩ hl.1 rfl (Nat.le_of_ble_eq_true rfl) ⟨Nat.zero_le _, Nat.zero_le _⟩ udX12_readsLines_94 (fun r Ma15 H locs hp w => ?_)
            rcases hp with ⟨⟨ho9, rfl⟩ | ⟨ho9, rfl⟩, hMe⟩
            · rw [hMe] at w
              refine z_if_ne (tgt := 107) hx hb (by omega) udX12_readsLines_97 (by decide) (fun c16 => ?_) (fun c16 => False.elim (by omega))
              refine lv_aload_n hx hb udX12_readsLines_107 rfl (lv_at hl 2 rfl) ?_
              refine f_12_9 F w (a := 146) rfl utb_96 udX12_readsLines_108 ?_
              refine r_val (v := (zI (jv12 : Int))) (hDv12.2.1) ?_
              refine lv_aload_n hx hb udX12_readsLines_111 rfl (lv_at hl 2 rfl) ?_
              refine f_12_8 F w (a := 146) rfl utb_103 udX12_readsLines_112 ?_
              refine r_val (v := (zI (tn : Int))) (hDv12.1.1) ?_
              refine z_icmp_ge (tgt := 129) hx hb (by omega) (by omega) udX12_readsLines_115 (by decide) (fun c17 => ?_) (fun c17 => ?_)
              · refine lv_aload_n hx hb udX12_readsLines_129 rfl (lv_at hl 2 rfl) ?_
                refine f_12_10 F w (a := 146) rfl utb_93 udX12_readsLines_130 ?_
                refine lv_bipush (v := zI 13) hx hb udX12_readsLines_133 (by decide) ?_
                refine lv_iload_n hx hb udX12_readsLines_135 rfl (lv_at hl 0 rfl) ?_
                refine z_iadd (z := (((13 + v2) : Nat) : Int)) hx hb udX12_readsLines_136 (by omega) ?_
                refine lv_dup2_11 hx hb udX12_readsLines_137 rfl rfl ?_
                refine g_iald F w (a := 151) rfl (j := (13 + v2)) (ix_n (by omega)) (by omega) udX12_readsLines_138 ?_
                have hL17 := (hDv12.2.2.2.wf.2.2.2.2 v2 (by omega)).2
                refine r_val (v := (zI (((o1.2.2 v2) : Nat) : Int))) (hDv12.2.2.2.1.2.2.2.2.2 v2 (by omega)) ?_
                refine lv_iconst (v := zI 1) hx hb udX12_readsLines_139 rfl ?_
                refine lv_aload_n hx hb udX12_readsLines_140 rfl (lv_at hl 2 rfl) ?_
                refine f_12_11 F w (a := 146) rfl utb_102 udX12_readsLines_141 ?_
                refine r_val (v := (zI (v12 : Int))) (mv12) ?_
                refine lv_ishl hx hb udX12_readsLines_144 ?_
                refine r_val (v := (zI (((2 ^ v12) : Nat) : Int))) (zb_shl (n := v12) (by omega)) ?_
                have q18 := p2_b (n := v12) (by omega)
                refine lv_ior hx hb udX12_readsLines_145 ?_
                refine r_val (v := (zI ((((o1.2.2 v2) ||| (2 ^ v12)) : Nat) : Int))) (zb_or (o1.2.2 v2) (2 ^ v12)) ?_
                have q19 := or_lt12 (a := (o1.2.2 v2)) (b := (2 ^ v12)) (by omega) (by omega)
                refine g_iast F w (a := 151) rfl (j := (13 + v2)) (ix_n (by omega)) (by omega) udX12_readsLines_146 (fun H locs w => ?_)
                refine lv_aload_n hx hb udX12_readsLines_147 rfl (lv_at hl 2 rfl) ?_
                have hD20 : ES (st Ma13 151 (13 + v2) (zI ((((o1.2.2 v2) ||| (2 ^ v12)) : Nat) : Int))) T tn jv12 y (lnO o1 v2 v12) := ES.w hDv12 Fr1.s (EW.ln hDv12.2.2.2 (by omega) (by omega))
                have fD20 : FrE (st Ma13 151 (13 + v2) (zI ((((o1.2.2 v2) ||| (2 ^ v12)) : Nat) : Int))) M := FrE.tr fDv12 FrE.s
                refine k_Vv F w (As := []) (rest := []) (a := 146) (kd_lt (a := 146) (show kd 146 = (12, 0, 0) from rfl) (by decide)) (sh_12 rfl _ _) rfl (t_blanks hT hD20.1 hD20.2.1 hD20.2.2.1) ugv_X12_179 uhv_X12_blanks ⟨(by omega), (by omega)⟩ hl.1 rfl (Nat.le_of_ble_eq_true rfl) ⟨Nat.zero_le _, Nat.zero_le _⟩ udX12_readsLines_148 (fun Ma22 H locs hp w => ?_)
                rcases hp with ⟨hB21, gB21⟩
                have hkB21 := sk_le (T := T) (N := tn) (i := jv12) (by omega)
                have hDB21 : ES Ma22 T tn (sk T tn jv12) y (lnO o1 v2 v12) := ES.b hD20 gB21 hB21 (by omega)
                have fDB21 : FrE Ma22 M := FrE.tr fD20 (FrE.n9 gB21)
                refine lv_goto (tgt := 4) hx hb udX12_readsLines_151 (by decide) ?_
                exact ih (sk T tn jv12) Ma22 (lnO o1 v2 v12) (fu - 1) hDB21 ((rl_y (by omega) (ln_y ev2 (by omega) ev12 ho9 (fun h9 => by have h8 := h9.1; have h7 := h9.2; omega)) (by omega)).symm.trans i1) fDB21 (by omega) (by omega) _ _ ls w (lv_sub hl [2] rfl)
              · refine lv_aload_n hx hb udX12_readsLines_118 rfl (lv_at hl 2 rfl) ?_
                refine x_Vi F w (As := []) (rest := []) (a := 146) (kd_lt (a := 146) (show kd 146 = (12, 0, 0) from rfl) (by decide)) (sh_12 rfl _ _) rfl (t_here hT hDv12.1 (A := jv12) hDv12.2.1 (by omega)) ugv_X12_175 uhv_X12_here ⟨(by omega), (by omega)⟩ hl.1 rfl (Nat.le_of_ble_eq_true rfl) ⟨Nat.zero_le _, Nat.zero_le _⟩ udX12_readsLines_119 (fun H locs w => ?_)
                have hg22 := sg_rg hT (jv12 : Int)
                have hh22 := sg_c (T := T) (N := tn) jv12
                have ht22 := hT.2 jv12
                refine lv_bipush (v := zI 32) hx hb udX12_readsLines_122 (by decide) ?_
                refine z_icmp_eq (tgt := 129) hx hb (by omega) (by omega) udX12_readsLines_124 (by decide) (fun c24 => ?_) (fun c24 => ?_)
                · refine lv_aload_n hx hb udX12_readsLines_129 rfl (lv_at hl 2 rfl) ?_
                  refine f_12_10 F w (a := 146) rfl utb_93 udX12_readsLines_130 ?_
                  refine lv_bipush (v := zI 13) hx hb udX12_readsLines_133 (by decide) ?_
                  refine lv_iload_n hx hb udX12_readsLines_135 rfl (lv_at hl 0 rfl) ?_
                  refine z_iadd (z := (((13 + v2) : Nat) : Int)) hx hb udX12_readsLines_136 (by omega) ?_
                  refine lv_dup2_11 hx hb udX12_readsLines_137 rfl rfl ?_
                  refine g_iald F w (a := 151) rfl (j := (13 + v2)) (ix_n (by omega)) (by omega) udX12_readsLines_138 ?_
                  have hL24 := (hDv12.2.2.2.wf.2.2.2.2 v2 (by omega)).2
                  refine r_val (v := (zI (((o1.2.2 v2) : Nat) : Int))) (hDv12.2.2.2.1.2.2.2.2.2 v2 (by omega)) ?_
                  refine lv_iconst (v := zI 1) hx hb udX12_readsLines_139 rfl ?_
                  refine lv_aload_n hx hb udX12_readsLines_140 rfl (lv_at hl 2 rfl) ?_
                  refine f_12_11 F w (a := 146) rfl utb_102 udX12_readsLines_141 ?_
                  refine r_val (v := (zI (v12 : Int))) (mv12) ?_
                  refine lv_ishl hx hb udX12_readsLines_144 ?_
                  refine r_val (v := (zI (((2 ^ v12) : Nat) : Int))) (zb_shl (n := v12) (by omega)) ?_
                  have q25 := p2_b (n := v12) (by omega)
                  refine lv_ior hx hb udX12_readsLines_145 ?_
                  refine r_val (v := (zI ((((o1.2.2 v2) ||| (2 ^ v12)) : Nat) : Int))) (zb_or (o1.2.2 v2) (2 ^ v12)) ?_
                  have q26 := or_lt12 (a := (o1.2.2 v2)) (b := (2 ^ v12)) (by omega) (by omega)
                  refine g_iast F w (a := 151) rfl (j := (13 + v2)) (ix_n (by omega)) (by omega) udX12_readsLines_146 (fun H locs w => ?_)
                  refine lv_aload_n hx hb udX12_readsLines_147 rfl (lv_at hl 2 rfl) ?_
                  have hD27 : ES (st Ma13 151 (13 + v2) (zI ((((o1.2.2 v2) ||| (2 ^ v12)) : Nat) : Int))) T tn jv12 y (lnO o1 v2 v12) := ES.w hDv12 Fr1.s (EW.ln hDv12.2.2.2 (by omega) (by omega))
                  have fD27 : FrE (st Ma13 151 (13 + v2) (zI ((((o1.2.2 v2) ||| (2 ^ v12)) : Nat) : Int))) M := FrE.tr fDv12 FrE.s
                  refine k_Vv F w (As := []) (rest := []) (a := 146) (kd_lt (a := 146) (show kd 146 = (12, 0, 0) from rfl) (by decide)) (sh_12 rfl _ _) rfl (t_blanks hT hD27.1 hD27.2.1 hD27.2.2.1) ugv_X12_179 uhv_X12_blanks ⟨(by omega), (by omega)⟩ hl.1 rfl (Nat.le_of_ble_eq_true rfl) ⟨Nat.zero_le _, Nat.zero_le _⟩ udX12_readsLines_148 (fun Ma29 H locs hp w => ?_)
                  rcases hp with ⟨hB28, gB28⟩
                  have hkB28 := sk_le (T := T) (N := tn) (i := jv12) (by omega)
                  have hDB28 : ES Ma29 T tn (sk T tn jv12) y (lnO o1 v2 v12) := ES.b hD27 gB28 hB28 (by omega)
                  have fDB28 : FrE Ma29 M := FrE.tr fD27 (FrE.n9 gB28)
                  refine lv_goto (tgt := 4) hx hb udX12_readsLines_151 (by decide) ?_
                  exact ih (sk T tn jv12) Ma29 (lnO o1 v2 v12) (fu - 1) hDB28 ((rl_y (by omega) (ln_y ev2 (by omega) ev12 ho9 (fun h9 => by have h8 := h9.1; have h7 := h9.2; omega)) (by omega)).symm.trans i1) fDB28 (by omega) (by omega) _ _ ls w (lv_sub hl [2] rfl)
                · refine lv_iconst (v := zI 0) hx hb udX12_readsLines_127 rfl ?_
                  exact e_z F w hr hlocks (nar_z (by omega)) (Or.inr ⟨i1.symm.trans (rl_n (by omega) (ln_4 ev2 ev12 (fun h9 => h9.2 ⟨by omega, by omega⟩)) (by omega)), rfl, hDv12.o, fDv12⟩) udX12_readsLines_128
            · rw [hMe] at w
              refine z_if_ne (tgt := 107) hx hb (by omega) udX12_readsLines_97 (by decide) (fun c30 => False.elim (by omega)) (fun c30 => ?_)
              refine lv_aload_n hx hb udX12_readsLines_100 rfl (lv_at hl 2 rfl) ?_
              refine lv_iload_n hx hb udX12_readsLines_101 rfl (lv_at hl 1 rfl) ?_
              refine u_12_9 F w (a := 146) rfl utb_96 udX12_readsLines_102 (fun H locs w => ?_)
              refine lv_iconst (v := zI 0) hx hb udX12_readsLines_105 rfl ?_
              have hD31 : ES (st Ma13 146 9 (zI (i : Int))) T tn i y o1 := ES.at hDv12 (by omega)
              have fD31 : FrE (st Ma13 146 9 (zI (i : Int))) M := FrE.tr fDv12 FrE.a
              exact e_z F w hr hlocks (nar_z (by omega)) (Or.inr ⟨i1.symm.trans (rl_n (by omega) (ln_4 ev2 ev12 (fun h9 => ho9 h9.1)) (by omega)), rfl, hD31.o, fD31⟩) udX12_readsLines_106
          · have fDv12 : FrE Ma13 M := FrE.tr fDB10 fv12
            refine z_if_ne (tgt := 85) hx hb (by omega) udX12_readsLines_80 (by decide) (fun c32 => False.elim (by omega)) (fun c32 => ?_)
            refine lv_iconst (v := zI 0) hx hb udX12_readsLines_83 rfl ?_
            exact e_z F w hr hlocks (nar_z (by omega)) (Or.inr ⟨i1.symm.trans (rl_n (by omega) (by rcases ev12 with h9 | ⟨v9, j9, h9, l9, d9⟩; exact ln_3 ev2 h9; exact ln_4 ev2 h9 (fun h8 => h8.2 (by have h7 := sg_c (T := T) (N := tn) j9; omega))) (by omega)), rfl, ov12, fDv12⟩) udX12_readsLines_84
        · refine lv_iconst (v := zI 0) hx hb udX12_readsLines_53 rfl ?_
          exact e_z F w hr hlocks (nar_z (by omega)) (Or.inr ⟨i1.symm.trans (rl_n (by omega) (ln_2 ev2 (by omega)) (by omega)), rfl, hDB5.o, fDB5⟩) udX12_readsLines_54
      · have fDv2 : FrE Ma3 M := FrE.tr i2 fv2
        refine z_if_ne (tgt := 35) hx hb (by omega) udX12_readsLines_30 (by decide) (fun c33 => False.elim (by omega)) (fun c33 => ?_)
        refine lv_iconst (v := zI 0) hx hb udX12_readsLines_33 rfl ?_
        exact e_z F w hr hlocks (nar_z (by omega)) (Or.inr ⟨i1.symm.trans (rl_n (by omega) (by rcases ev2 with h9 | ⟨v9, j9, h9, l9, d9⟩; exact ln_1 h9; exact ln_2 h9 (by have h8 := sg_c (T := T) (N := tn) j9; rw [sk_e (by omega)]; omega)) (by omega)), rfl, ov2, fDv2⟩) udX12_readsLines_34
theorem udX12_readsLines_0 : decode cX12_readsLines 0 = .ok (.aload_n 0, 1) := dq0 kk_42 (by decide +kernel)
theorem udX12_readsLines_1 : decode cX12_readsLines 1 = .ok (.invokevirtual 179, 3) := dqV kk_182 (by decide +kernel)
theorem udX12_readsLines_154 : decode cX12_readsLines 154 = .ok (.iconst 1, 1) := dq0 kk_4 (by decide +kernel)
theorem udX12_readsLines_155 : decode cX12_readsLines 155 = .ok (.ireturn, 1) := dq0 kk_172 (by decide +kernel)
set_option maxRecDepth 4000 in
theorem t_readsLines {l : Launch} {D : va_G} {B : Nat} {cy : Nat → ClassId} {M : Mem} {T : Nat → Nat} {tn : Nat} (hT : okT T tn) {b : Nat} {y : Sy} {o : Wo} (hD : ES M T tn b y o) : Ci l D B cy yX12_readsLines cX12_readsLines 3 (some .boolean) 3 66 [.ref (B + 146)] M (fun r M1 => ELQ T tn (rlnF T tn y.1 301 (sk T tn b) o) y M r M1) := by
  refine s_any (by decide) (Nat.le_of_ble_eq_true rfl) ?_
  intro p e s m below meth c ls F hr hlocks w hl
  have F : CallFix p m c cX12_readsLines 3 s _ TB RX12 := F
  have hx := F.1
  have hb := F.2.1
  have hl : lv_has ls 3 [(0, .ref (B + 146))] := hl
  have hN := hT.1
  have hbN := hD.2.2.1
  refine lv_aload_n hx hb udX12_readsLines_0 rfl (lv_at hl 0 rfl) ?_
  refine k_Vv F w (As := []) (rest := []) (a := 146) (kd_lt (a := 146) (show kd 146 = (12, 0, 0) from rfl) (by decide)) (sh_12 rfl _ _) rfl (t_blanks hT hD.1 hD.2.1 hD.2.2.1) ugv_X12_179 uhv_X12_blanks ⟨(Nat.le_of_ble_eq_true rfl), (Nat.le_of_ble_eq_true rfl)⟩ hl.1 rfl (Nat.le_of_ble_eq_true rfl) ⟨Nat.zero_le _, Nat.zero_le _⟩ udX12_readsLines_1 (fun Ma2 H locs hp w => ?_)
  rcases hp with ⟨hB1, gB1⟩
  have hkB1 := sk_le (T := T) (N := tn) (i := b) (by omega)
  have hDB1 : ES Ma2 T tn (sk T tn b) y o := ES.b hD gB1 hB1 (by omega)
  have fDB1 : FrE Ma2 M := FrE.tr FrE.rf (FrE.n9 gB1)
  refine lp_X12_rlines  F hr hlocks (Nat.le_of_ble_eq_true rfl) (Nat.le_of_ble_eq_true rfl) hT (fun i Nm o1 fu H locs ls x0 x1 x2 w hl => ?_) tn (sk T tn b) Ma2 o 301 hDB1 rfl fDB1 (by omega) (by omega) _ _ ls w (lv_sub hl [0] rfl)
  refine lv_iconst (v := zI 1) hx hb udX12_readsLines_154 rfl ?_
  exact e_z F w hr hlocks (nar_z (by omega)) (Or.inl ⟨_, _, x0, rfl, x1, x2⟩) udX12_readsLines_155
