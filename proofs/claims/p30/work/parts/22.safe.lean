theorem dX0_hasRule_0 : decode cX0_hasRule 0 = .ok (.iload_n 1, 1) := rdX0_hasRule_0
theorem dX0_hasRule_1 : decode cX0_hasRule 1 = .ok (.ifCond .lt 21, 3) := rdX0_hasRule_1
theorem dX0_hasRule_22 : decode cX0_hasRule 22 = .ok (.iconst 0, 1) := rdX0_hasRule_22
theorem dX0_hasRule_23 : decode cX0_hasRule 23 = .ok (.ireturn, 1) := rdX0_hasRule_23
theorem dX0_hasRule_4 : decode cX0_hasRule 4 = .ok (.iload_n 1, 1) := rdX0_hasRule_4
theorem dX0_hasRule_5 : decode cX0_hasRule 5 = .ok (.aload_n 0, 1) := rdX0_hasRule_5
theorem dX0_hasRule_6 : decode cX0_hasRule 6 = .ok (.getfield 24, 3) := rdX0_hasRule_6
theorem tb_176 : Cond.fieldLink "ToneLines$Derivation" 24 "ToneLines$Derivation" "size" "I" ∈ TB := rtb_86
theorem dX0_hasRule_9 : decode cX0_hasRule 9 = .ok (.if_icmp .ge 13, 3) := rdX0_hasRule_9
theorem dX0_hasRule_12 : decode cX0_hasRule 12 = .ok (.iload_n 1, 1) := rdX0_hasRule_12
theorem dX0_hasRule_13 : decode cX0_hasRule 13 = .ok (.bipush 8, 2) := rdX0_hasRule_13
theorem dX0_hasRule_15 : decode cX0_hasRule 15 = .ok (.if_icmp .ge 7, 3) := rdX0_hasRule_15
theorem dX0_hasRule_18 : decode cX0_hasRule 18 = .ok (.iconst 1, 1) := rdX0_hasRule_18
theorem dX0_hasRule_19 : decode cX0_hasRule 19 = .ok (.goto 4, 3) := rdX0_hasRule_19
set_option maxRecDepth 4000 in
theorem q_X0_hasRule {l : Launch} {D : va_G} {B : Nat} {cy : Nat → ClassId} {M : Mem} {x : Int} (hx : (-2147483648) ≤ x ∧ x ≤ 2147483647) (hI : Inv M) : Ci l D B cy yX0_hasRule cX0_hasRule 2 (some .boolean) 0 0 [.ref (B + 22), .int (zI x)] M (fun r M1 => ∃ z : Int, r = zI z ∧ (0 ≤ z ∧ z ≤ 1) ∧ ((z = 0 ∨ (0 ≤ x ∧ x ≤ 7))) ∧ M1 = M) := by
  refine s_anyQ (by decide) (Nat.le_of_ble_eq_true rfl) ?_
  intro p e s m args below meth c ls Q F hr hlocks hQ w hl
  have F : CallFix p m c cX0_hasRule 2 s args TB RX0 := F
  have hx := F.1
  have hb := F.2.1
  have hl : lv_has ls 2 [(0, .ref (B + 22)), (1, .int (zI x))] := hl
  refine lv_iload_n hx hb dX0_hasRule_0 rfl (lv_at hl 1 rfl) ?_
  refine z_if_lt (tgt := 22) hx hb (by omega) dX0_hasRule_1 (by decide) (fun c1 => ?_) (fun c1 => ?_)
  · refine lv_iconst (v := zI 0) hx hb dX0_hasRule_22 rfl ?_
    rw [hQ]
    exact e_z F w hr hlocks (nar_z (by omega)) ⟨_, rfl, (by omega), (by omega), rfl⟩ dX0_hasRule_23
  · refine lv_iload_n hx hb dX0_hasRule_4 rfl (lv_at hl 1 rfl) ?_
    refine lv_aload_n hx hb dX0_hasRule_5 rfl (lv_at hl 0 rfl) ?_
    refine f_0_2 F w (a := 22) rfl tb_176 dX0_hasRule_6 ?_
    obtain ⟨z2, bz2, ez2⟩ := Inv.ld (k := 2) hI (show iv 22 2 = (0, 8) from rfl) (show 22 < 146 by decide)
    refine r_val ez2 ?_
    refine z_icmp_ge (tgt := 22) hx hb (by omega) (by omega) dX0_hasRule_9 (by decide) (fun c3 => ?_) (fun c3 => ?_)
    · refine lv_iconst (v := zI 0) hx hb dX0_hasRule_22 rfl ?_
      rw [hQ]
      exact e_z F w hr hlocks (nar_z (by omega)) ⟨_, rfl, (by omega), (by omega), rfl⟩ dX0_hasRule_23
    · refine lv_iload_n hx hb dX0_hasRule_12 rfl (lv_at hl 1 rfl) ?_
      refine lv_bipush (v := zI 8) hx hb dX0_hasRule_13 (by decide) ?_
      refine z_icmp_ge (tgt := 22) hx hb (by omega) (by omega) dX0_hasRule_15 (by decide) (fun c4 => False.elim (by omega)) (fun c4 => ?_)
      refine lv_iconst (v := zI 1) hx hb dX0_hasRule_18 rfl ?_
      refine lv_goto (tgt := 23) hx hb dX0_hasRule_19 (by decide) ?_
      rw [hQ]
      exact e_z F w hr hlocks (nar_z (by omega)) ⟨_, rfl, (by omega), (by omega), rfl⟩ dX0_hasRule_23
theorem dX0_covers_0 : decode cX0_covers 0 = .ok (.iload_n 1, 1) := wdX0_covers_0
theorem dX0_covers_1 : decode cX0_covers 1 = .ok (.ifCond .lt 15, 3) := wdX0_covers_1
theorem dX0_covers_16 : decode cX0_covers 16 = .ok (.iconst 0, 1) := wdX0_covers_16
theorem dX0_covers_17 : decode cX0_covers 17 = .ok (.ireturn, 1) := wdX0_covers_17
theorem dX0_covers_4 : decode cX0_covers 4 = .ok (.iload_n 1, 1) := wdX0_covers_4
theorem dX0_covers_5 : decode cX0_covers 5 = .ok (.aload_n 0, 1) := wdX0_covers_5
theorem dX0_covers_6 : decode cX0_covers 6 = .ok (.getfield 24, 3) := wdX0_covers_6
theorem dX0_covers_9 : decode cX0_covers 9 = .ok (.if_icmp .gt 7, 3) := wdX0_covers_9
theorem dX0_covers_12 : decode cX0_covers 12 = .ok (.iconst 1, 1) := wdX0_covers_12
theorem dX0_covers_13 : decode cX0_covers 13 = .ok (.goto 4, 3) := wdX0_covers_13
set_option maxRecDepth 4000 in
theorem q_X0_covers {l : Launch} {D : va_G} {B : Nat} {cy : Nat → ClassId} {M : Mem} {x : Int} (hx : (-2147483648) ≤ x ∧ x ≤ 2147483647) (hI : Inv M) : Ci l D B cy yX0_covers cX0_covers 2 (some .boolean) 0 0 [.ref (B + 22), .int (zI x)] M (fun r M1 => ∃ z : Int, r = zI z ∧ (0 ≤ z ∧ z ≤ 1) ∧ ((z = 0 ∨ (0 ≤ x ∧ x ≤ 8))) ∧ M1 = M) := by
  refine s_anyQ (by decide) (Nat.le_of_ble_eq_true rfl) ?_
  intro p e s m args below meth c ls Q F hr hlocks hQ w hl
  have F : CallFix p m c cX0_covers 2 s args TB RX0 := F
  have hx := F.1
  have hb := F.2.1
  have hl : lv_has ls 2 [(0, .ref (B + 22)), (1, .int (zI x))] := hl
  refine lv_iload_n hx hb dX0_covers_0 rfl (lv_at hl 1 rfl) ?_
  refine z_if_lt (tgt := 16) hx hb (by omega) dX0_covers_1 (by decide) (fun c1 => ?_) (fun c1 => ?_)
  · refine lv_iconst (v := zI 0) hx hb dX0_covers_16 rfl ?_
    rw [hQ]
    exact e_z F w hr hlocks (nar_z (by omega)) ⟨_, rfl, (by omega), (by omega), rfl⟩ dX0_covers_17
  · refine lv_iload_n hx hb dX0_covers_4 rfl (lv_at hl 1 rfl) ?_
    refine lv_aload_n hx hb dX0_covers_5 rfl (lv_at hl 0 rfl) ?_
    refine f_0_2 F w (a := 22) rfl tb_176 dX0_covers_6 ?_
    obtain ⟨z2, bz2, ez2⟩ := Inv.ld (k := 2) hI (show iv 22 2 = (0, 8) from rfl) (show 22 < 146 by decide)
    refine r_val ez2 ?_
    refine z_icmp_gt (tgt := 16) hx hb (by omega) (by omega) dX0_covers_9 (by decide) (fun c3 => ?_) (fun c3 => ?_)
    · refine lv_iconst (v := zI 0) hx hb dX0_covers_16 rfl ?_
      rw [hQ]
      exact e_z F w hr hlocks (nar_z (by omega)) ⟨_, rfl, (by omega), (by omega), rfl⟩ dX0_covers_17
    · refine lv_iconst (v := zI 1) hx hb dX0_covers_12 rfl ?_
      refine lv_goto (tgt := 17) hx hb dX0_covers_13 (by decide) ?_
      rw [hQ]
      exact e_z F w hr hlocks (nar_z (by omega)) ⟨_, rfl, (by omega), (by omega), rfl⟩ dX0_covers_17
theorem dX0_takeRules_0 : decode cX0_takeRules 0 = .ok (.aload_n 0, 1) := rdX0_takeRules_0
theorem dX0_takeRules_1 : decode cX0_takeRules 1 = .ok (.iload_n 2, 1) := rdX0_takeRules_1
theorem dX0_takeRules_2 : decode cX0_takeRules 2 = .ok (.bipush 8, 2) := rdX0_takeRules_2
theorem dX0_takeRules_4 : decode cX0_takeRules 4 = .ok (.invokestatic 50, 3) := rdX0_takeRules_4
theorem tb_177 : Cond.methodLink "ToneLines$Derivation" 50 yJ9_min_7cf53 ∈ TB := rtb_91
theorem tb_178 : Cond.static yJ9_min_7cf53 ∈ TB := rtb_92
theorem tq_min : Cond.code Lib.Math.min.name Lib.Math.min.code 2 (some .int) ∈ TB := rtq_min
theorem dX0_takeRules_7 : decode cX0_takeRules 7 = .ok (.putfield 24, 3) := rdX0_takeRules_7
theorem dX0_takeRules_10 : decode cX0_takeRules 10 = .ok (.iconst 0, 1) := rdX0_takeRules_10
theorem dX0_takeRules_11 : decode cX0_takeRules 11 = .ok (.istore_n 3, 1) := rdX0_takeRules_11
theorem dX0_takeRules_12 : decode cX0_takeRules 12 = .ok (.iload_n 3, 1) := rdX0_takeRules_12
theorem dX0_takeRules_13 : decode cX0_takeRules 13 = .ok (.aload_n 0, 1) := rdX0_takeRules_13
theorem dX0_takeRules_14 : decode cX0_takeRules 14 = .ok (.getfield 24, 3) := rdX0_takeRules_14
theorem dX0_takeRules_17 : decode cX0_takeRules 17 = .ok (.if_icmp .ge 27, 3) := rdX0_takeRules_17
theorem dX0_takeRules_44 : decode cX0_takeRules 44 = .ok (.return_, 1) := rdX0_takeRules_44
theorem dX0_takeRules_20 : decode cX0_takeRules 20 = .ok (.iload_n 3, 1) := rdX0_takeRules_20
theorem dX0_takeRules_21 : decode cX0_takeRules 21 = .ok (.aload_n 1, 1) := rdX0_takeRules_21
theorem dX0_takeRules_22 : decode cX0_takeRules 22 = .ok (.arraylength, 1) := rdX0_takeRules_22
theorem dX0_takeRules_23 : decode cX0_takeRules 23 = .ok (.if_icmp .ge 21, 3) := rdX0_takeRules_23
theorem dX0_takeRules_26 : decode cX0_takeRules 26 = .ok (.aload_n 0, 1) := rdX0_takeRules_26
theorem dX0_takeRules_27 : decode cX0_takeRules 27 = .ok (.getfield 20, 3) := rdX0_takeRules_27
theorem tb_180 : Cond.fieldLink "ToneLines$Derivation" 20 "ToneLines$Derivation" "list" "[LToneLines$Rule;" ∈ TB := rtb_87
theorem dX0_takeRules_30 : decode cX0_takeRules 30 = .ok (.iload_n 3, 1) := rdX0_takeRules_30
theorem dX0_takeRules_31 : decode cX0_takeRules 31 = .ok (.aaload, 1) := rdX0_takeRules_31
theorem dX0_takeRules_32 : decode cX0_takeRules 32 = .ok (.aload_n 1, 1) := rdX0_takeRules_32
theorem dX0_takeRules_33 : decode cX0_takeRules 33 = .ok (.iload_n 3, 1) := rdX0_takeRules_33
theorem dX0_takeRules_34 : decode cX0_takeRules 34 = .ok (.aaload, 1) := rdX0_takeRules_34
theorem dX0_takeRules_35 : decode cX0_takeRules 35 = .ok (.invokevirtual 56, 3) := rdX0_takeRules_35
theorem tk_X4_copyFrom : Cond.code yX4_copyFrom cX4_copyFrom 2 none ∈ TB := rtk_X4_copyFrom
theorem gc_X4_copyFrom : GoodIn TB (cw yX4_copyFrom cX4_copyFrom 2 none) := goodIn_c2 tk_X4_copyFrom
theorem tb_181 : Cond.methodLink "ToneLines$Derivation" 56 yX4_copyFrom ∈ TB := rtb_88
theorem tb_182 : Cond.instanceMethod yX4_copyFrom ∈ TB := rtb_89
theorem tb_183 : Cond.selects "ToneLines$Rule" yX4_copyFrom yX4_copyFrom ∈ TB := rtb_90
theorem gv_X0_56 : GoodIn TB (wsV RX0 56 RX4 yX4_copyFrom (cw yX4_copyFrom cX4_copyFrom 2 none)) := goodIn_4 tb_181 tb_182 tb_183 tb_121 gc_X4_copyFrom
theorem hv_X4_copyFrom : yX4_copyFrom.cls = RX4 ∧ yX4_copyFrom.cls ≠ "java/lang/invoke/MethodHandle" ∧ yX4_copyFrom.cls ≠ "java/lang/invoke/VarHandle" ∧ (parseMethodDescriptor yX4_copyFrom.desc).map (fun d => d.parameters.length) = some 1 := rhv_X4_copyFrom
theorem dX0_takeRules_38 : decode cX0_takeRules 38 = .ok (.iinc 3 1, 3) := rdX0_takeRules_38
theorem dX0_takeRules_41 : decode cX0_takeRules 41 = .ok (.goto (-29), 3) := rdX0_takeRules_41
set_option maxRecDepth 4000 in
theorem q_X0_takeRules {l : Launch} {D : va_G} {B : Nat} {cy : Nat → ClassId} {M : Mem} {x : Int} (hx : 0 ≤ x ∧ x ≤ 8) (hI : Inv M) : Cv l D B cy yX0_takeRules cX0_takeRules 4 2 61 [.ref (B + 22), .ref (B + 5), .int (zI x)] M (fun M1 => Inv M1 ∧ Fr (fun b9 k9 => (b9 = 22 ∧ k9 = 2) ∨ (28 ≤ b9 ∧ b9 ≤ 43)) M1 M) := by
  refine s_anyQ (by decide) (Nat.le_of_ble_eq_true rfl) ?_
  intro p e s m args below meth c ls Q F hr hlocks hQ w hl
  have F : CallFix p m c cX0_takeRules 4 s args TB RX0 := F
  have hx := F.1
  have hb := F.2.1
  have hl : lv_has ls 4 [(0, .ref (B + 22)), (1, .ref (B + 5)), (2, .int (zI x))] := hl
  have hF : Fr (fun b9 k9 => (b9 = 22 ∧ k9 = 2) ∨ (28 ≤ b9 ∧ b9 ≤ 43)) M M := Fr.rf
  refine lv_aload_n hx hb dX0_takeRules_0 rfl (lv_at hl 0 rfl) ?_
  refine lv_iload_n hx hb dX0_takeRules_1 rfl (lv_at hl 2 rfl) ?_
  refine lv_bipush (v := zI 8) hx hb dX0_takeRules_2 (by decide) ?_
  obtain ⟨z1, bz1, ez1⟩ := min_ex x 8 (by omega) (by omega)
  refine g_min F hl.1 tb_177 tb_178 tb_52 tq_min (Nat.le_of_ble_eq_true rfl) (Nat.le_of_ble_eq_true rfl) (Nat.zero_le _) (Nat.zero_le _) (v := zI z1) ez1 dX0_takeRules_4 ?_
  refine u_0_2 F w (a := 22) rfl tb_176 dX0_takeRules_7 (fun H locs w => ?_)
  refine lv_iconst (v := zI 0) hx hb dX0_takeRules_10 rfl ?_
  refine lv_istore_n (lv' := [(3, .int (zI 0)), (0, .ref (B + 22)), (1, .ref (B + 5)), (2, .int (zI x))]) hx hb dX0_takeRules_11 rfl hl (by decide) rfl (fun ls hl => ?_)
  have lp12 : ∀ (f : Nat) (v3_12 : Int)  (NL12 : Mem), (0 ≤ v3_12 ∧ v3_12 ≤ 8) → NL12.1 22 2 = zI z1 → Inv NL12 → Fr (fun b9 k9 => (b9 = 22 ∧ k9 = 2) ∨ (28 ≤ b9 ∧ b9 ≤ 43)) NL12 M → (Int.toNat (8 - v3_12) < f) → ∀ (H : Heap) (locs : List Loc) (ls : Array Slot), Wd D B cy s s.heap NL12 H locs → lv_has ls 4 [(3, .int (zI v3_12)), (0, .ref (B + 22)), (1, .ref (B + 5)), (2, .int (zI x))] → W p l e (rmm 2 61) s m args below meth c H locs 0 0 Q (F0 m 12 ls []) := by
    intro f
    induction f with
    | zero => intros; omega
    | succ f ih12 =>
      intro v3_12  NL12 iv3_12 eg22_2_12 hIL12 hFL12 hf12 H locs ls w hl
      refine lv_iload_n hx hb dX0_takeRules_12 rfl (lv_at hl 0 rfl) ?_
      refine lv_aload_n hx hb dX0_takeRules_13 rfl (lv_at hl 1 rfl) ?_
      refine f_0_2 F w (a := 22) rfl tb_176 dX0_takeRules_14 ?_
      refine r_val (v := zI z1) (eg22_2_12) ?_
      refine z_icmp_ge (tgt := 44) hx hb (by omega) (by omega) dX0_takeRules_17 (by decide) (fun c2 => ?_) (fun c2 => ?_)
      · rw [hQ]
        exact e_v F w hr hlocks ⟨hIL12, hFL12⟩ dX0_takeRules_44
      · refine lv_iload_n hx hb dX0_takeRules_20 rfl (lv_at hl 0 rfl) ?_
        refine lv_aload_n hx hb dX0_takeRules_21 rfl (lv_at hl 2 rfl) ?_
        refine g_alen F w (a := 5) (t := 4) (by decide) rfl rfl (v := zI 8) rfl dX0_takeRules_22 ?_
        refine z_icmp_ge (tgt := 44) hx hb (by omega) (by omega) dX0_takeRules_23 (by decide) (fun c3 => False.elim (by omega)) (fun c3 => ?_)
        refine lv_aload_n hx hb dX0_takeRules_26 rfl (lv_at hl 1 rfl) ?_
        refine f_0_1 F w (a := 22) rfl tb_180 dX0_takeRules_27 ?_
        refine lv_iload_n hx hb dX0_takeRules_30 rfl (lv_at hl 0 rfl) ?_
        have hk4 := kd_lst (j := (Int.toNat v3_12)) (by omega)
        refine g_aldR F w (a := 24) rfl (j := (Int.toNat v3_12)) (o := (28 + 2 * (Int.toNat v3_12))) rfl (ix_z (by omega) (by omega)) (by omega) dX0_takeRules_31 ?_
        refine lv_aload_n hx hb dX0_takeRules_32 rfl (lv_at hl 2 rfl) ?_
        refine lv_iload_n hx hb dX0_takeRules_33 rfl (lv_at hl 0 rfl) ?_
        have hk5 := kd_dra (j := (Int.toNat v3_12)) (by omega)
        refine g_aldR F w (a := 5) rfl (j := (Int.toNat v3_12)) (o := (6 + 2 * (Int.toNat v3_12))) rfl (ix_z (by omega) (by omega)) (by omega) dX0_takeRules_34 ?_
        refine k_Vv F w (As := [.ref (B + (6 + 2 * (Int.toNat v3_12)))]) (rest := []) (a := (28 + 2 * (Int.toNat v3_12))) (kd_lt (a := (28 + 2 * (Int.toNat v3_12))) hk4 (by decide)) (sh_4 hk4 _ _) rfl (q_X4_copyFrom (u1 := (28 + 2 * (Int.toNat v3_12))) hk4 (u2 := (6 + 2 * (Int.toNat v3_12))) hk5  hIL12) gv_X0_56 hv_X4_copyFrom ⟨(Nat.le_of_ble_eq_true rfl), (Nat.le_of_ble_eq_true rfl)⟩ hl.1 rfl (Nat.le_of_ble_eq_true rfl) ⟨Nat.zero_le _, Nat.zero_le _⟩ dX0_takeRules_35 (fun N7 H locs hp w => ?_)
        obtain ⟨hIN7, hFN7⟩ := hp
        have hGN7 := Fr.tr hFL12 hFN7 (S := (fun b9 k9 => (b9 = 22 ∧ k9 = 2) ∨ (28 ≤ b9 ∧ b9 ≤ 43))) (fun b k h => by first | omega | (dsimp only at h ⊢; omega))
        have kn9 : N7.1 22 2 = zI z1 := (hFN7 22 2 (by first | omega | (dsimp only; omega))).trans (eg22_2_12)
        refine z_iinc (v := (v3_12 + 1)) (lv' := [(3, .int (zI (v3_12 + 1))), (0, .ref (B + 22)), (1, .ref (B + 5)), (2, .int (zI x))]) hx hb dX0_takeRules_38 hl (k := 0) rfl (by omega) (by decide) rfl (fun ls hl => ?_)
        refine lv_goto (tgt := 12) hx hb dX0_takeRules_41 (by decide) ?_
        exact ih12 (v3_12 + 1) N7 (by omega)  (kn9)  hIN7 hGN7 (by omega) _ _ _ w (lv_sub hl [0, 1, 2, 3] rfl)
  exact lp12 _ 0 (st M 22 2 (zI z1)) (by omega) (st_at) (Inv.to hI (a := 22) (k := 2) (x := z1) (show iv 22 2 = (0, 8) from rfl) (by omega)) (Fr.to hF (by first | omega | (dsimp only; first | done | omega))) (Nat.lt_succ_self _) _ _ _ w (lv_sub hl [0, 1, 2, 3] rfl)
theorem dX0_stageOf_0 : decode cX0_stageOf 0 = .ok (.aload_n 0, 1) := wdX0_stageOf_0
theorem dX0_stageOf_1 : decode cX0_stageOf 1 = .ok (.iload_n 1, 1) := wdX0_stageOf_1
theorem dX0_stageOf_2 : decode cX0_stageOf 2 = .ok (.invokevirtual 60, 3) := wdX0_stageOf_2
theorem tk_X0_covers : Cond.code yX0_covers cX0_covers 2 (some .boolean) ∈ TB := wtk_X0_covers
theorem gc_X0_covers : GoodIn TB (cw yX0_covers cX0_covers 2 (some .boolean)) := goodIn_c2 tk_X0_covers
theorem tb_184 : Cond.methodLink "ToneLines$Derivation" 60 yX0_covers ∈ TB := wtb_196
theorem tb_185 : Cond.instanceMethod yX0_covers ∈ TB := wtb_197
theorem tb_186 : Cond.selects "ToneLines$Derivation" yX0_covers yX0_covers ∈ TB := wtb_198
theorem tb_187 : Cond.initialized "ToneLines$Derivation" ∈ TB := rtb_112
theorem gv_X0_60 : GoodIn TB (wsV RX0 60 RX0 yX0_covers (cw yX0_covers cX0_covers 2 (some .boolean))) := goodIn_4 tb_184 tb_185 tb_186 tb_187 gc_X0_covers
theorem hv_X0_covers : yX0_covers.cls = RX0 ∧ yX0_covers.cls ≠ "java/lang/invoke/MethodHandle" ∧ yX0_covers.cls ≠ "java/lang/invoke/VarHandle" ∧ (parseMethodDescriptor yX0_covers.desc).map (fun d => d.parameters.length) = some 1 := whv_X0_covers
theorem dX0_stageOf_5 : decode cX0_stageOf 5 = .ok (.ifCond .ne 8, 3) := wdX0_stageOf_5
theorem dX0_stageOf_13 : decode cX0_stageOf 13 = .ok (.aload_n 0, 1) := wdX0_stageOf_13
theorem dX0_stageOf_14 : decode cX0_stageOf 14 = .ok (.getfield 41, 3) := wdX0_stageOf_14
theorem tb_188 : Cond.fieldLink "ToneLines$Derivation" 41 "ToneLines$Derivation" "ready" "I" ∈ TB := wtb_183
theorem dX0_stageOf_17 : decode cX0_stageOf 17 = .ok (.iload_n 1, 1) := wdX0_stageOf_17
theorem dX0_stageOf_18 : decode cX0_stageOf 18 = .ok (.if_icmp .ge 83, 3) := wdX0_stageOf_18
theorem dX0_stageOf_101 : decode cX0_stageOf 101 = .ok (.aload_n 0, 1) := wdX0_stageOf_101
theorem dX0_stageOf_102 : decode cX0_stageOf 102 = .ok (.getfield 30, 3) := wdX0_stageOf_102
theorem tb_189 : Cond.fieldLink "ToneLines$Derivation" 30 "ToneLines$Derivation" "stages" "[LToneLines$Word;" ∈ TB := wtb_184
theorem dX0_stageOf_105 : decode cX0_stageOf 105 = .ok (.iload_n 1, 1) := wdX0_stageOf_105
theorem dX0_stageOf_106 : decode cX0_stageOf 106 = .ok (.aaload, 1) := wdX0_stageOf_106
theorem dX0_stageOf_107 : decode cX0_stageOf 107 = .ok (.areturn, 1) := wdX0_stageOf_107
theorem dX0_stageOf_21 : decode cX0_stageOf 21 = .ok (.aload_n 0, 1) := wdX0_stageOf_21
theorem dX0_stageOf_22 : decode cX0_stageOf 22 = .ok (.getfield 30, 3) := wdX0_stageOf_22
theorem dX0_stageOf_25 : decode cX0_stageOf 25 = .ok (.aload_n 0, 1) := wdX0_stageOf_25
theorem dX0_stageOf_26 : decode cX0_stageOf 26 = .ok (.getfield 41, 3) := wdX0_stageOf_26
theorem dX0_stageOf_29 : decode cX0_stageOf 29 = .ok (.iconst 1, 1) := wdX0_stageOf_29
theorem dX0_stageOf_30 : decode cX0_stageOf 30 = .ok (.iadd, 1) := wdX0_stageOf_30
theorem dX0_stageOf_31 : decode cX0_stageOf 31 = .ok (.aaload, 1) := wdX0_stageOf_31
theorem dX0_stageOf_32 : decode cX0_stageOf 32 = .ok (.astore_n 2, 1) := wdX0_stageOf_32
theorem dX0_stageOf_33 : decode cX0_stageOf 33 = .ok (.aload_n 2, 1) := wdX0_stageOf_33
theorem dX0_stageOf_34 : decode cX0_stageOf 34 = .ok (.aload_n 0, 1) := wdX0_stageOf_34
theorem dX0_stageOf_35 : decode cX0_stageOf 35 = .ok (.getfield 30, 3) := wdX0_stageOf_35
theorem dX0_stageOf_38 : decode cX0_stageOf 38 = .ok (.aload_n 0, 1) := wdX0_stageOf_38
theorem dX0_stageOf_39 : decode cX0_stageOf 39 = .ok (.getfield 41, 3) := wdX0_stageOf_39
theorem dX0_stageOf_42 : decode cX0_stageOf 42 = .ok (.aaload, 1) := wdX0_stageOf_42
theorem dX0_stageOf_43 : decode cX0_stageOf 43 = .ok (.invokevirtual 64, 3) := wdX0_stageOf_43
theorem tk_X9_copyFrom : Cond.code yX9_copyFrom cX9_copyFrom 2 none ∈ TB := wtk_X9_copyFrom
theorem gc_X9_copyFrom : GoodIn TB (cw yX9_copyFrom cX9_copyFrom 2 none) := goodIn_c2 tk_X9_copyFrom
theorem tb_190 : Cond.methodLink "ToneLines$Derivation" 64 yX9_copyFrom ∈ TB := wtb_185
theorem tb_191 : Cond.instanceMethod yX9_copyFrom ∈ TB := wtb_186
theorem tb_192 : Cond.selects "ToneLines$Word" yX9_copyFrom yX9_copyFrom ∈ TB := wtb_187
theorem gv_X0_64 : GoodIn TB (wsV RX0 64 RX9 yX9_copyFrom (cw yX9_copyFrom cX9_copyFrom 2 none)) := goodIn_4 tb_190 tb_191 tb_192 tb_5 gc_X9_copyFrom
theorem hv_X9_copyFrom : yX9_copyFrom.cls = RX9 ∧ yX9_copyFrom.cls ≠ "java/lang/invoke/MethodHandle" ∧ yX9_copyFrom.cls ≠ "java/lang/invoke/VarHandle" ∧ (parseMethodDescriptor yX9_copyFrom.desc).map (fun d => d.parameters.length) = some 1 := whv_X9_copyFrom
theorem dX0_stageOf_46 : decode cX0_stageOf 46 = .ok (.aload_n 0, 1) := wdX0_stageOf_46
theorem dX0_stageOf_47 : decode cX0_stageOf 47 = .ok (.getfield 34, 3) := wdX0_stageOf_47
theorem tb_193 : Cond.fieldLink "ToneLines$Derivation" 34 "ToneLines$Derivation" "changes" "[I" ∈ TB := wtb_188
theorem dX0_stageOf_50 : decode cX0_stageOf 50 = .ok (.aload_n 0, 1) := wdX0_stageOf_50
theorem dX0_stageOf_51 : decode cX0_stageOf 51 = .ok (.getfield 41, 3) := wdX0_stageOf_51
theorem dX0_stageOf_54 : decode cX0_stageOf 54 = .ok (.aload_n 0, 1) := wdX0_stageOf_54
theorem dX0_stageOf_55 : decode cX0_stageOf 55 = .ok (.getfield 12, 3) := wdX0_stageOf_55
theorem tb_194 : Cond.fieldLink "ToneLines$Derivation" 12 "ToneLines$Derivation" "doer" "LToneLines$Doer;" ∈ TB := wtb_189
theorem dX0_stageOf_58 : decode cX0_stageOf 58 = .ok (.aload_n 0, 1) := wdX0_stageOf_58
theorem dX0_stageOf_59 : decode cX0_stageOf 59 = .ok (.getfield 20, 3) := wdX0_stageOf_59
theorem dX0_stageOf_62 : decode cX0_stageOf 62 = .ok (.aload_n 0, 1) := wdX0_stageOf_62
theorem dX0_stageOf_63 : decode cX0_stageOf 63 = .ok (.getfield 41, 3) := wdX0_stageOf_63
theorem dX0_stageOf_66 : decode cX0_stageOf 66 = .ok (.aaload, 1) := wdX0_stageOf_66
theorem dX0_stageOf_67 : decode cX0_stageOf 67 = .ok (.aload_n 2, 1) := wdX0_stageOf_67
theorem dX0_stageOf_68 : decode cX0_stageOf 68 = .ok (.invokevirtual 67, 3) := wdX0_stageOf_68
theorem tk_X1_perform : Cond.code yX1_perform cX1_perform 6 (some .int) ∈ TB := wtk_X1_perform
theorem gc_X1_perform : GoodIn TB (cw yX1_perform cX1_perform 6 (some .int)) := goodIn_c2 tk_X1_perform
theorem tb_195 : Cond.methodLink "ToneLines$Derivation" 67 yX1_perform ∈ TB := wtb_191
theorem tb_196 : Cond.instanceMethod yX1_perform ∈ TB := wtb_192
theorem tb_197 : Cond.selects "ToneLines$Doer" yX1_perform yX1_perform ∈ TB := wtb_193
theorem gv_X0_67 : GoodIn TB (wsV RX0 67 RX1 yX1_perform (cw yX1_perform cX1_perform 6 (some .int))) := goodIn_4 tb_195 tb_196 tb_197 tb_76 gc_X1_perform
theorem hv_X1_perform : yX1_perform.cls = RX1 ∧ yX1_perform.cls ≠ "java/lang/invoke/MethodHandle" ∧ yX1_perform.cls ≠ "java/lang/invoke/VarHandle" ∧ (parseMethodDescriptor yX1_perform.desc).map (fun d => d.parameters.length) = some 2 := whv_X1_perform
theorem dX0_stageOf_71 : decode cX0_stageOf 71 = .ok (.iastore, 1) := wdX0_stageOf_71
theorem dX0_stageOf_72 : decode cX0_stageOf 72 = .ok (.aload_n 0, 1) := wdX0_stageOf_72
theorem dX0_stageOf_73 : decode cX0_stageOf 73 = .ok (.getfield 38, 3) := wdX0_stageOf_73
theorem tb_198 : Cond.fieldLink "ToneLines$Derivation" 38 "ToneLines$Derivation" "passes" "[I" ∈ TB := wtb_194
theorem dX0_stageOf_76 : decode cX0_stageOf 76 = .ok (.aload_n 0, 1) := wdX0_stageOf_76
theorem dX0_stageOf_77 : decode cX0_stageOf 77 = .ok (.getfield 41, 3) := wdX0_stageOf_77
theorem dX0_stageOf_80 : decode cX0_stageOf 80 = .ok (.aload_n 0, 1) := wdX0_stageOf_80
theorem dX0_stageOf_81 : decode cX0_stageOf 81 = .ok (.getfield 12, 3) := wdX0_stageOf_81
theorem dX0_stageOf_84 : decode cX0_stageOf 84 = .ok (.getfield 71, 3) := wdX0_stageOf_84
theorem tb_199 : Cond.fieldLink "ToneLines$Derivation" 71 "ToneLines$Doer" "passes" "I" ∈ TB := wtb_195
theorem dX0_stageOf_87 : decode cX0_stageOf 87 = .ok (.iastore, 1) := wdX0_stageOf_87
theorem dX0_stageOf_88 : decode cX0_stageOf 88 = .ok (.aload_n 0, 1) := wdX0_stageOf_88
theorem dX0_stageOf_89 : decode cX0_stageOf 89 = .ok (.dup, 1) := wdX0_stageOf_89
theorem dX0_stageOf_90 : decode cX0_stageOf 90 = .ok (.getfield 41, 3) := wdX0_stageOf_90
theorem dX0_stageOf_93 : decode cX0_stageOf 93 = .ok (.iconst 1, 1) := wdX0_stageOf_93
theorem dX0_stageOf_94 : decode cX0_stageOf 94 = .ok (.iadd, 1) := wdX0_stageOf_94
theorem dX0_stageOf_95 : decode cX0_stageOf 95 = .ok (.putfield 41, 3) := wdX0_stageOf_95
theorem dX0_stageOf_98 : decode cX0_stageOf 98 = .ok (.goto (-85), 3) := wdX0_stageOf_98
theorem dX0_stageOf_8 : decode cX0_stageOf 8 = .ok (.aload_n 0, 1) := dq0 kk_42 (by decide +kernel)
theorem dX0_stageOf_9 : decode cX0_stageOf 9 = .ok (.getfield 46, 3) := dqV kk_180 (by decide +kernel)
theorem tb_200 : Cond.fieldLink "ToneLines$Derivation" 46 "ToneLines$Derivation" "told" "LToneLines$Word;" ∈ TB := tbm (tc1 (List.mem_of_getElem? (i := 176) rfl)) rfl
theorem dX0_stageOf_12 : decode cX0_stageOf 12 = .ok (.areturn, 1) := dq0 kk_176 (by decide +kernel)
set_option maxRecDepth 4000 in
theorem q_X0_stageOf {l : Launch} {D : va_G} {B : Nat} {cy : Nat → ClassId} {M : Mem} {x : Int} (hx : (-2147483648) ≤ x ∧ x ≤ 2147483647) (hI : Inv M) : Cr l D B cy yX0_stageOf cX0_stageOf 3 (some (.object "ToneLines$Word")) 5 133 [.ref (B + 22), .int (zI x)] M (fun r M1 => ∃ z : Nat, r = z ∧ (kd z = (9, 0, 0) ∧ 44 ≤ z ∧ z ≤ 68) ∧ Inv M1 ∧ Fr (fun b9 k9 => (b9 = 22 ∧ k9 = 7) ∨ (b9 = 23 ∧ k9 = 0) ∨ b9 = 26 ∨ b9 = 27 ∨ (44 ≤ b9 ∧ b9 ≤ 70)) M1 M) := by
  refine s_anyQ (by decide) (Nat.le_of_ble_eq_true rfl) ?_
  intro p e s m args below meth c ls Q F hr hlocks hQ w hl
  have F : CallFix p m c cX0_stageOf 3 s args TB RX0 := F
  have hx := F.1
  have hb := F.2.1
  have hl : lv_has ls 3 [(0, .ref (B + 22)), (1, .int (zI x))] := hl
  have hF : Fr (fun b9 k9 => (b9 = 22 ∧ k9 = 7) ∨ (b9 = 23 ∧ k9 = 0) ∨ b9 = 26 ∨ b9 = 27 ∨ (44 ≤ b9 ∧ b9 ≤ 70)) M M := Fr.rf
  refine lv_aload_n hx hb dX0_stageOf_0 rfl (lv_at hl 0 rfl) ?_
  refine lv_iload_n hx hb dX0_stageOf_1 rfl (lv_at hl 1 rfl) ?_
  refine k_Vi F w (As := [.int (zI x)]) (rest := []) (a := 22) (kd_lt (a := 22) (show kd 22 = (0, 0, 0) from rfl) (by decide)) (sh_0 rfl _ _) rfl (q_X0_covers (x := x) (by omega)  hI) gv_X0_60 hv_X0_covers ⟨(Nat.le_of_ble_eq_true rfl), (Nat.le_of_ble_eq_true rfl)⟩ hl.1 rfl (Nat.le_of_ble_eq_true rfl) ⟨Nat.zero_le _, Nat.zero_le _⟩ dX0_stageOf_2 (fun r1 N2 H locs hp w => ?_)
  obtain ⟨z3, rfl, bz3, xz3, hMN2⟩ := hp
  rw [hMN2] at w
  refine z_if_ne (tgt := 13) hx hb (by omega) dX0_stageOf_5 (by decide) (fun c4 => ?_) (fun c4 => ?_)
  · obtain ⟨z5, bz5, ez5⟩ := Inv.ld (k := 7) hI (show iv 22 7 = (0, 8) from rfl) (show 22 < 146 by decide)
    have lp13 : ∀ (f : Nat)  (g22_7_13 : Int) (NL13 : Mem), (0 ≤ g22_7_13 ∧ g22_7_13 ≤ 8) → NL13.1 22 7 = zI g22_7_13 → Inv NL13 → Fr (fun b9 k9 => (b9 = 22 ∧ k9 = 7) ∨ (b9 = 23 ∧ k9 = 0) ∨ b9 = 26 ∨ b9 = 27 ∨ (44 ≤ b9 ∧ b9 ≤ 70)) NL13 M → (Int.toNat (8 - g22_7_13) < f) → ∀ (H : Heap) (locs : List Loc) (ls : Array Slot), Wd D B cy s s.heap NL13 H locs → lv_has ls 3 [(0, .ref (B + 22)), (1, .int (zI x))] → W p l e (rmm 5 133) s m args below meth c H locs 0 0 Q (F0 m 13 ls []) := by
      intro f
      induction f with
      | zero => intros; omega
      | succ f ih13 =>
        intro  g22_7_13 NL13 ig22_7_13 eg22_7_13 hIL13 hFL13 hf13 H locs ls w hl
        refine lv_aload_n hx hb dX0_stageOf_13 rfl (lv_at hl 0 rfl) ?_
        refine f_0_7 F w (a := 22) rfl tb_188 dX0_stageOf_14 ?_
        refine r_val (v := zI g22_7_13) (eg22_7_13) ?_
        refine lv_iload_n hx hb dX0_stageOf_17 rfl (lv_at hl 1 rfl) ?_
        refine z_icmp_ge (tgt := 101) hx hb (by omega) (by omega) dX0_stageOf_18 (by decide) (fun c6 => ?_) (fun c6 => ?_)
        · refine lv_aload_n hx hb dX0_stageOf_101 rfl (lv_at hl 0 rfl) ?_
          refine f_0_3 F w (a := 22) rfl tb_189 dX0_stageOf_102 ?_
          refine lv_iload_n hx hb dX0_stageOf_105 rfl (lv_at hl 1 rfl) ?_
          have hk7 := kd_stg (j := (Int.toNat x)) (by omega)
          refine g_aldW F w (a := 25) rfl (j := (Int.toNat x)) (o := (44 + 3 * (Int.toNat x))) rfl (ix_z (by omega) (by omega)) (by omega) dX0_stageOf_106 ?_
          rw [hQ]
          exact e_r (post := fun r M1 => ∃ z : Nat, r = z ∧ (kd z = (9, 0, 0) ∧ 44 ≤ z ∧ z ≤ 68) ∧ Inv M1 ∧ Fr (fun b9 k9 => (b9 = 22 ∧ k9 = 7) ∨ (b9 = 23 ∧ k9 = 0) ∨ b9 = 26 ∨ b9 = 27 ∨ (44 ≤ b9 ∧ b9 ≤ 70)) M1 M) F w hr hlocks ⟨_, rfl, ⟨hk7, by omega, by omega⟩, hIL13, hFL13⟩ dX0_stageOf_107
        · refine lv_aload_n hx hb dX0_stageOf_21 rfl (lv_at hl 0 rfl) ?_
          refine f_0_3 F w (a := 22) rfl tb_189 dX0_stageOf_22 ?_
          refine lv_aload_n hx hb dX0_stageOf_25 rfl (lv_at hl 0 rfl) ?_
          refine f_0_7 F w (a := 22) rfl tb_188 dX0_stageOf_26 ?_
          refine r_val (v := zI g22_7_13) (eg22_7_13) ?_
          refine lv_iconst (v := zI 1) hx hb dX0_stageOf_29 rfl ?_
          refine z_iadd (z := (g22_7_13 + 1)) hx hb dX0_stageOf_30 (by omega) ?_
          have hk8 := kd_stg (j := (Int.toNat (g22_7_13 + 1))) (by omega)
          refine g_aldW F w (a := 25) rfl (j := (Int.toNat (g22_7_13 + 1))) (o := (44 + 3 * (Int.toNat (g22_7_13 + 1)))) rfl (ix_z (by omega) (by omega)) (by omega) dX0_stageOf_31 ?_
          refine lv_astore_n (lv' := [(2, .ref (B + (44 + 3 * (Int.toNat (g22_7_13 + 1))))), (0, .ref (B + 22)), (1, .int (zI x))]) hx hb dX0_stageOf_32 rfl hl (by decide) rfl (fun ls hl => ?_)
          refine lv_aload_n hx hb dX0_stageOf_33 rfl (lv_at hl 0 rfl) ?_
          refine lv_aload_n hx hb dX0_stageOf_34 rfl (lv_at hl 1 rfl) ?_
          refine f_0_3 F w (a := 22) rfl tb_189 dX0_stageOf_35 ?_
          refine lv_aload_n hx hb dX0_stageOf_38 rfl (lv_at hl 1 rfl) ?_
          refine f_0_7 F w (a := 22) rfl tb_188 dX0_stageOf_39 ?_
          refine r_val (v := zI g22_7_13) (eg22_7_13) ?_
          have hk9 := kd_stg (j := (Int.toNat g22_7_13)) (by omega)
          refine g_aldW F w (a := 25) rfl (j := (Int.toNat g22_7_13)) (o := (44 + 3 * (Int.toNat g22_7_13))) rfl (ix_z (by omega) (by omega)) (by omega) dX0_stageOf_42 ?_
          refine k_Vv F w (As := [.ref (B + (44 + 3 * (Int.toNat g22_7_13)))]) (rest := []) (a := (44 + 3 * (Int.toNat (g22_7_13 + 1)))) (kd_lt (a := (44 + 3 * (Int.toNat (g22_7_13 + 1)))) hk8 (by decide)) (sh_9 hk8 _ _) rfl (q_X9_copyFrom (a := (44 + 3 * (Int.toNat (g22_7_13 + 1)))) hk8 (d := (44 + 3 * (Int.toNat g22_7_13))) hk9  hIL13) gv_X0_64 hv_X9_copyFrom ⟨(Nat.le_of_ble_eq_true rfl), (Nat.le_of_ble_eq_true rfl)⟩ hl.1 rfl (Nat.le_of_ble_eq_true rfl) ⟨Nat.zero_le _, Nat.zero_le _⟩ dX0_stageOf_43 (fun N11 H locs hp w => ?_)
          obtain ⟨hIN11, hFN11⟩ := hp
          have hGN11 := Fr.tr hFL13 hFN11 (S := (fun b9 k9 => (b9 = 22 ∧ k9 = 7) ∨ (b9 = 23 ∧ k9 = 0) ∨ b9 = 26 ∨ b9 = 27 ∨ (44 ≤ b9 ∧ b9 ≤ 70))) (fun b k h => by first | omega | (dsimp only at h ⊢; omega))
          have kn13 : N11.1 22 7 = zI g22_7_13 := (hFN11 22 7 (by first | omega | (dsimp only; omega))).trans (eg22_7_13)
          refine lv_aload_n hx hb dX0_stageOf_46 rfl (lv_at hl 1 rfl) ?_
          refine f_0_5 F w (a := 22) rfl tb_193 dX0_stageOf_47 ?_
          refine lv_aload_n hx hb dX0_stageOf_50 rfl (lv_at hl 1 rfl) ?_
          refine f_0_7 F w (a := 22) rfl tb_188 dX0_stageOf_51 ?_
          refine r_val (v := zI g22_7_13) (kn13) ?_
          refine lv_aload_n hx hb dX0_stageOf_54 rfl (lv_at hl 1 rfl) ?_
          refine f_0_0 F w (a := 22) rfl tb_194 dX0_stageOf_55 ?_
          refine lv_aload_n hx hb dX0_stageOf_58 rfl (lv_at hl 1 rfl) ?_
          refine f_0_1 F w (a := 22) rfl tb_180 dX0_stageOf_59 ?_
          refine lv_aload_n hx hb dX0_stageOf_62 rfl (lv_at hl 1 rfl) ?_
          refine f_0_7 F w (a := 22) rfl tb_188 dX0_stageOf_63 ?_
          refine r_val (v := zI g22_7_13) (kn13) ?_
          have hk14 := kd_lst (j := (Int.toNat g22_7_13)) (by omega)
          refine g_aldR F w (a := 24) rfl (j := (Int.toNat g22_7_13)) (o := (28 + 2 * (Int.toNat g22_7_13))) rfl (ix_z (by omega) (by omega)) (by omega) dX0_stageOf_66 ?_
          refine lv_aload_n hx hb dX0_stageOf_67 rfl (lv_at hl 0 rfl) ?_
          refine k_Vi F w (As := [.ref (B + (28 + 2 * (Int.toNat g22_7_13))), .ref (B + (44 + 3 * (Int.toNat (g22_7_13 + 1))))]) (rest := [.int (zI g22_7_13), .ref (B + 26)]) (a := 23) (kd_lt (a := 23) (show kd 23 = (1, 0, 0) from rfl) (by decide)) (sh_1 rfl _ _) rfl (q_X1_perform (u1 := (28 + 2 * (Int.toNat g22_7_13))) hk14 (a := (44 + 3 * (Int.toNat (g22_7_13 + 1)))) hk8  hIN11) gv_X0_67 hv_X1_perform ⟨(Nat.le_of_ble_eq_true rfl), (Nat.le_of_ble_eq_true rfl)⟩ hl.1 rfl (Nat.le_of_ble_eq_true rfl) ⟨Nat.zero_le _, Nat.zero_le _⟩ dX0_stageOf_68 (fun r15 N16 H locs hp w => ?_)
          obtain ⟨z17, rfl, bz17, hIN16, hFN16⟩ := hp
          have hGN16 := Fr.tr hGN11 hFN16 (S := (fun b9 k9 => (b9 = 22 ∧ k9 = 7) ∨ (b9 = 23 ∧ k9 = 0) ∨ b9 = 26 ∨ b9 = 27 ∨ (44 ≤ b9 ∧ b9 ≤ 70))) (fun b k h => by first | omega | (dsimp only at h ⊢; omega))
          have kn18 : N16.1 22 7 = zI g22_7_13 := (hFN16 22 7 (by first | omega | (dsimp only; omega))).trans (kn13)
          refine g_iast F w (a := 26) rfl (j := (Int.toNat g22_7_13)) (ix_z (by omega) (by omega)) (by omega) dX0_stageOf_71 (fun H locs w => ?_)
          refine lv_aload_n hx hb dX0_stageOf_72 rfl (lv_at hl 1 rfl) ?_
          refine f_0_6 F w (a := 22) rfl tb_198 dX0_stageOf_73 ?_
          refine lv_aload_n hx hb dX0_stageOf_76 rfl (lv_at hl 1 rfl) ?_
          refine f_0_7 F w (a := 22) rfl tb_188 dX0_stageOf_77 ?_
          refine r_val (v := zI g22_7_13) ((st_ne (Or.inl (by decide))).trans kn18) ?_
          refine lv_aload_n hx hb dX0_stageOf_80 rfl (lv_at hl 1 rfl) ?_
          refine f_0_0 F w (a := 22) rfl tb_194 dX0_stageOf_81 ?_
          refine f_1_0 F w (a := 23) rfl tb_199 dX0_stageOf_84 ?_
          obtain ⟨z19, bz19, ez19⟩ := Inv.ld (k := 0) (Inv.to hIN16 (a := 26) (k := (Int.toNat g22_7_13)) (x := z17) (show iv 26 (Int.toNat g22_7_13) = ((-2147483648), 2147483647) from rfl) (by omega)) (show iv 23 0 = (0, 20) from rfl) (show 23 < 146 by decide)
          refine r_val ez19 ?_
          refine g_iast F w (a := 27) rfl (j := (Int.toNat g22_7_13)) (ix_z (by omega) (by omega)) (by omega) dX0_stageOf_87 (fun H locs w => ?_)
          refine lv_aload_n hx hb dX0_stageOf_88 rfl (lv_at hl 1 rfl) ?_
          refine lv_dup hx hb dX0_stageOf_89 rfl ?_
          refine f_0_7 F w (a := 22) rfl tb_188 dX0_stageOf_90 ?_
          refine r_val (v := zI g22_7_13) ((st_ne (Or.inl (by decide))).trans ((st_ne (Or.inl (by decide))).trans kn18)) ?_
          refine lv_iconst (v := zI 1) hx hb dX0_stageOf_93 rfl ?_
          refine z_iadd (z := (g22_7_13 + 1)) hx hb dX0_stageOf_94 (by omega) ?_
          refine u_0_7 F w (a := 22) rfl tb_188 dX0_stageOf_95 (fun H locs w => ?_)
          refine lv_goto (tgt := 13) hx hb dX0_stageOf_98 (by decide) ?_
          exact ih13 (g22_7_13 + 1) (st (st (st N16 26 (Int.toNat g22_7_13) (zI z17)) 27 (Int.toNat g22_7_13) (zI z19)) 22 7 (zI (g22_7_13 + 1)))  (by omega) (st_at)  (Inv.to (Inv.to (Inv.to hIN16 (a := 26) (k := (Int.toNat g22_7_13)) (x := z17) (show iv 26 (Int.toNat g22_7_13) = ((-2147483648), 2147483647) from rfl) (by omega)) (a := 27) (k := (Int.toNat g22_7_13)) (x := z19) (show iv 27 (Int.toNat g22_7_13) = ((-2147483648), 2147483647) from rfl) (by omega)) (a := 22) (k := 7) (x := (g22_7_13 + 1)) (show iv 22 7 = (0, 8) from rfl) (by omega)) (Fr.to (Fr.to (Fr.to hGN16 (by first | omega | (dsimp only; first | done | omega))) (by first | omega | (dsimp only; first | done | omega))) (by first | omega | (dsimp only; first | done | omega))) (by omega) _ _ _ w (lv_sub hl [1, 2] rfl)
    exact lp13 _ z5 M (by omega) (ez5) hI hF (Nat.lt_succ_self _) _ _ _ w (lv_sub hl [0, 1] rfl)
  · refine lv_aload_n hx hb dX0_stageOf_8 rfl (lv_at hl 0 rfl) ?_
    refine f_0_4 F w (a := 22) rfl tb_200 dX0_stageOf_9 ?_
    rw [hQ]
    exact e_r (post := fun r M1 => ∃ z : Nat, r = z ∧ (kd z = (9, 0, 0) ∧ 44 ≤ z ∧ z ≤ 68) ∧ Inv M1 ∧ Fr (fun b9 k9 => (b9 = 22 ∧ k9 = 7) ∨ (b9 = 23 ∧ k9 = 0) ∨ b9 = 26 ∨ b9 = 27 ∨ (44 ≤ b9 ∧ b9 ≤ 70)) M1 M) F w hr hlocks ⟨_, rfl, ⟨(show kd 44 = (9, 0, 0) from rfl), by omega, by omega⟩, hI, hF⟩ dX0_stageOf_12
theorem dX0_changesUpTo_0 : decode cX0_changesUpTo 0 = .ok (.iconst 0, 1) := wdX0_changesUpTo_0
theorem dX0_changesUpTo_1 : decode cX0_changesUpTo 1 = .ok (.istore_n 2, 1) := wdX0_changesUpTo_1
theorem dX0_changesUpTo_2 : decode cX0_changesUpTo 2 = .ok (.iconst 0, 1) := wdX0_changesUpTo_2
theorem dX0_changesUpTo_3 : decode cX0_changesUpTo 3 = .ok (.istore_n 3, 1) := wdX0_changesUpTo_3
theorem dX0_changesUpTo_4 : decode cX0_changesUpTo 4 = .ok (.iload_n 3, 1) := wdX0_changesUpTo_4
theorem dX0_changesUpTo_5 : decode cX0_changesUpTo 5 = .ok (.iload_n 1, 1) := wdX0_changesUpTo_5
theorem dX0_changesUpTo_6 : decode cX0_changesUpTo 6 = .ok (.if_icmp .ge 26, 3) := wdX0_changesUpTo_6
theorem dX0_changesUpTo_32 : decode cX0_changesUpTo 32 = .ok (.iload_n 2, 1) := wdX0_changesUpTo_32
theorem dX0_changesUpTo_33 : decode cX0_changesUpTo 33 = .ok (.ireturn, 1) := wdX0_changesUpTo_33
theorem dX0_changesUpTo_9 : decode cX0_changesUpTo 9 = .ok (.iload_n 3, 1) := wdX0_changesUpTo_9
theorem dX0_changesUpTo_10 : decode cX0_changesUpTo 10 = .ok (.aload_n 0, 1) := wdX0_changesUpTo_10
theorem dX0_changesUpTo_11 : decode cX0_changesUpTo 11 = .ok (.getfield 41, 3) := wdX0_changesUpTo_11
theorem dX0_changesUpTo_14 : decode cX0_changesUpTo 14 = .ok (.if_icmp .ge 18, 3) := wdX0_changesUpTo_14
theorem dX0_changesUpTo_17 : decode cX0_changesUpTo 17 = .ok (.iload_n 2, 1) := wdX0_changesUpTo_17
theorem dX0_changesUpTo_18 : decode cX0_changesUpTo 18 = .ok (.aload_n 0, 1) := wdX0_changesUpTo_18
theorem dX0_changesUpTo_19 : decode cX0_changesUpTo 19 = .ok (.getfield 34, 3) := wdX0_changesUpTo_19
theorem dX0_changesUpTo_22 : decode cX0_changesUpTo 22 = .ok (.iload_n 3, 1) := wdX0_changesUpTo_22
theorem dX0_changesUpTo_23 : decode cX0_changesUpTo 23 = .ok (.iaload, 1) := wdX0_changesUpTo_23
theorem dX0_changesUpTo_24 : decode cX0_changesUpTo 24 = .ok (.iadd, 1) := wdX0_changesUpTo_24
theorem dX0_changesUpTo_25 : decode cX0_changesUpTo 25 = .ok (.istore_n 2, 1) := wdX0_changesUpTo_25
theorem dX0_changesUpTo_26 : decode cX0_changesUpTo 26 = .ok (.iinc 3 1, 3) := wdX0_changesUpTo_26
theorem dX0_changesUpTo_29 : decode cX0_changesUpTo 29 = .ok (.goto (-25), 3) := wdX0_changesUpTo_29
set_option maxRecDepth 4000 in
theorem q_X0_changesUpTo {l : Launch} {D : va_G} {B : Nat} {cy : Nat → ClassId} {M : Mem} {x : Int} (hx : (-2147483648) ≤ x ∧ x ≤ 2147483647) (hI : Inv M) : Ci l D B cy yX0_changesUpTo cX0_changesUpTo 4 (some .int) 0 0 [.ref (B + 22), .int (zI x)] M (fun r M1 => ∃ z : Int, r = zI z ∧ ((-2147483648) ≤ z ∧ z ≤ 2147483647) ∧ M1 = M) := by
  refine s_anyQ (by decide) (Nat.le_of_ble_eq_true rfl) ?_
  intro p e s m args below meth c ls Q F hr hlocks hQ w hl
  have F : CallFix p m c cX0_changesUpTo 4 s args TB RX0 := F
  have hx := F.1
  have hb := F.2.1
  have hl : lv_has ls 4 [(0, .ref (B + 22)), (1, .int (zI x))] := hl
  refine lv_iconst (v := zI 0) hx hb dX0_changesUpTo_0 rfl ?_
  refine lv_istore_n (lv' := [(2, .int (zI 0)), (0, .ref (B + 22)), (1, .int (zI x))]) hx hb dX0_changesUpTo_1 rfl hl (by decide) rfl (fun ls hl => ?_)
  refine lv_iconst (v := zI 0) hx hb dX0_changesUpTo_2 rfl ?_
  refine lv_istore_n (lv' := [(3, .int (zI 0)), (2, .int (zI 0)), (0, .ref (B + 22)), (1, .int (zI x))]) hx hb dX0_changesUpTo_3 rfl hl (by decide) rfl (fun ls hl => ?_)
  have lp4 : ∀ (f : Nat) (v3_4 : Int) (v2_4 : Int), (0 ≤ v3_4 ∧ v3_4 ≤ 8) → ((-2147483648) ≤ v2_4 ∧ v2_4 ≤ 2147483647) → (Int.toNat (8 - v3_4) < f) → ∀ (H : Heap) (locs : List Loc) (ls : Array Slot), Wd D B cy s s.heap M H locs → lv_has ls 4 [(3, .int (zI v3_4)), (2, .int (zI v2_4)), (0, .ref (B + 22)), (1, .int (zI x))] → W p l e (rmm 0 0) s m args below meth c H locs 0 0 Q (F0 m 4 ls []) := by
    intro f
    induction f with
    | zero => intros; omega
    | succ f ih4 =>
      intro v3_4 v2_4  iv3_4 iv2_4 hf4 H locs ls w hl
      refine lv_iload_n hx hb dX0_changesUpTo_4 rfl (lv_at hl 0 rfl) ?_
      refine lv_iload_n hx hb dX0_changesUpTo_5 rfl (lv_at hl 3 rfl) ?_
      refine z_icmp_ge (tgt := 32) hx hb (by omega) (by omega) dX0_changesUpTo_6 (by decide) (fun c1 => ?_) (fun c1 => ?_)
      · refine lv_iload_n hx hb dX0_changesUpTo_32 rfl (lv_at hl 1 rfl) ?_
        rw [hQ]
        exact e_i F w hr hlocks ⟨_, rfl, (by omega), rfl⟩ dX0_changesUpTo_33
      · refine lv_iload_n hx hb dX0_changesUpTo_9 rfl (lv_at hl 0 rfl) ?_
        refine lv_aload_n hx hb dX0_changesUpTo_10 rfl (lv_at hl 2 rfl) ?_
        refine f_0_7 F w (a := 22) rfl tb_188 dX0_changesUpTo_11 ?_
        obtain ⟨z2, bz2, ez2⟩ := Inv.ld (k := 7) hI (show iv 22 7 = (0, 8) from rfl) (show 22 < 146 by decide)
        refine r_val ez2 ?_
        refine z_icmp_ge (tgt := 32) hx hb (by omega) (by omega) dX0_changesUpTo_14 (by decide) (fun c3 => ?_) (fun c3 => ?_)
        · refine lv_iload_n hx hb dX0_changesUpTo_32 rfl (lv_at hl 1 rfl) ?_
          rw [hQ]
          exact e_i F w hr hlocks ⟨_, rfl, (by omega), rfl⟩ dX0_changesUpTo_33
        · refine lv_iload_n hx hb dX0_changesUpTo_17 rfl (lv_at hl 1 rfl) ?_
          refine lv_aload_n hx hb dX0_changesUpTo_18 rfl (lv_at hl 2 rfl) ?_
          refine f_0_5 F w (a := 22) rfl tb_193 dX0_changesUpTo_19 ?_
          refine lv_iload_n hx hb dX0_changesUpTo_22 rfl (lv_at hl 0 rfl) ?_
          refine g_iald F w (a := 26) rfl (j := (Int.toNat v3_4)) (ix_z (by omega) (by omega)) (by omega) dX0_changesUpTo_23 ?_
          obtain ⟨z4, bz4, ez4⟩ := Inv.ld (k := (Int.toNat v3_4)) hI (show iv 26 (Int.toNat v3_4) = ((-2147483648), 2147483647) from rfl) (show 26 < 146 by decide)
          refine r_val ez4 ?_
          obtain ⟨z5, bz5, x0z5, ez5⟩ := add_ex v2_4 z4
          refine lv_iadd hx hb dX0_changesUpTo_24 ?_
          refine r_val ez5 ?_
          refine lv_istore_n (lv' := [(2, .int (zI z5)), (3, .int (zI v3_4)), (0, .ref (B + 22)), (1, .int (zI x))]) hx hb dX0_changesUpTo_25 rfl hl (by decide) rfl (fun ls hl => ?_)
          refine z_iinc (v := (v3_4 + 1)) (lv' := [(3, .int (zI (v3_4 + 1))), (2, .int (zI z5)), (0, .ref (B + 22)), (1, .int (zI x))]) hx hb dX0_changesUpTo_26 hl (k := 1) rfl (by omega) (by decide) rfl (fun ls hl => ?_)
          refine lv_goto (tgt := 4) hx hb dX0_changesUpTo_29 (by decide) ?_
          exact ih4 (v3_4 + 1) z5 (by omega) (by omega)     (by omega) _ _ _ w (lv_sub hl [0, 1, 2, 3] rfl)
  exact lp4 _ 0 0 (by omega) (by omega) (Nat.lt_succ_self _) _ _ _ w (lv_sub hl [0, 1, 2, 3] rfl)
theorem dX0_idleRules_0 : decode cX0_idleRules 0 = .ok (.iconst 0, 1) := dq0 kk_3 (by decide +kernel)
theorem dX0_idleRules_1 : decode cX0_idleRules 1 = .ok (.istore_n 1, 1) := dq0 kk_60 (by decide +kernel)
theorem dX0_idleRules_2 : decode cX0_idleRules 2 = .ok (.iconst 0, 1) := dq0 kk_3 (by decide +kernel)
theorem dX0_idleRules_3 : decode cX0_idleRules 3 = .ok (.istore_n 2, 1) := dq0 kk_61 (by decide +kernel)
theorem dX0_idleRules_4 : decode cX0_idleRules 4 = .ok (.iload_n 2, 1) := dq0 kk_28 (by decide +kernel)
theorem dX0_idleRules_5 : decode cX0_idleRules 5 = .ok (.aload_n 0, 1) := dq0 kk_42 (by decide +kernel)
theorem dX0_idleRules_6 : decode cX0_idleRules 6 = .ok (.getfield 41, 3) := dqV kk_180 (by decide +kernel)
theorem dX0_idleRules_9 : decode cX0_idleRules 9 = .ok (.if_icmp .ge 24, 3) := dqT kk_162 (by decide +kernel)
theorem dX0_idleRules_33 : decode cX0_idleRules 33 = .ok (.iload_n 1, 1) := dq0 kk_27 (by decide +kernel)
theorem dX0_idleRules_34 : decode cX0_idleRules 34 = .ok (.ireturn, 1) := dq0 kk_172 (by decide +kernel)
theorem dX0_idleRules_12 : decode cX0_idleRules 12 = .ok (.aload_n 0, 1) := dq0 kk_42 (by decide +kernel)
theorem dX0_idleRules_13 : decode cX0_idleRules 13 = .ok (.getfield 34, 3) := dqV kk_180 (by decide +kernel)
theorem dX0_idleRules_16 : decode cX0_idleRules 16 = .ok (.iload_n 2, 1) := dq0 kk_28 (by decide +kernel)
theorem dX0_idleRules_17 : decode cX0_idleRules 17 = .ok (.iaload, 1) := dq0 kk_46 (by decide +kernel)
theorem dX0_idleRules_18 : decode cX0_idleRules 18 = .ok (.ifCond .ne 9, 3) := dqT kk_154 (by decide +kernel)
theorem dX0_idleRules_27 : decode cX0_idleRules 27 = .ok (.iinc 2 1, 3) := dqI kk_132 (by decide +kernel)
theorem dX0_idleRules_30 : decode cX0_idleRules 30 = .ok (.goto (-26), 3) := dqT kk_167 (by decide +kernel)
theorem dX0_idleRules_21 : decode cX0_idleRules 21 = .ok (.iload_n 1, 1) := dq0 kk_27 (by decide +kernel)
theorem dX0_idleRules_22 : decode cX0_idleRules 22 = .ok (.iconst 1, 1) := dq0 kk_4 (by decide +kernel)
theorem dX0_idleRules_23 : decode cX0_idleRules 23 = .ok (.iload_n 2, 1) := dq0 kk_28 (by decide +kernel)
theorem dX0_idleRules_24 : decode cX0_idleRules 24 = .ok (.ishl, 1) := dq0 kk_120 (by decide +kernel)
theorem dX0_idleRules_25 : decode cX0_idleRules 25 = .ok (.ior, 1) := dq0 kk_128 (by decide +kernel)
theorem dX0_idleRules_26 : decode cX0_idleRules 26 = .ok (.istore_n 1, 1) := dq0 kk_60 (by decide +kernel)
set_option maxRecDepth 4000 in
theorem q_X0_idleRules {l : Launch} {D : va_G} {B : Nat} {cy : Nat → ClassId} {M : Mem}  (hI : Inv M) : Ci l D B cy yX0_idleRules cX0_idleRules 3 (some .int) 0 0 [.ref (B + 22)] M (fun r M1 => ∃ z : Int, r = zI z ∧ (0 ≤ z ∧ z ≤ 4095) ∧ M1 = M) := by
  refine s_anyQ (by decide) (Nat.le_of_ble_eq_true rfl) ?_
  intro p e s m args below meth c ls Q F hr hlocks hQ w hl
  have F : CallFix p m c cX0_idleRules 3 s args TB RX0 := F
  have hx := F.1
  have hb := F.2.1
  have hl : lv_has ls 3 [(0, .ref (B + 22))] := hl
  refine lv_iconst (v := zI 0) hx hb dX0_idleRules_0 rfl ?_
  refine lv_istore_n (lv' := [(1, .int (zI 0)), (0, .ref (B + 22))]) hx hb dX0_idleRules_1 rfl hl (by decide) rfl (fun ls hl => ?_)
  refine lv_iconst (v := zI 0) hx hb dX0_idleRules_2 rfl ?_
  refine lv_istore_n (lv' := [(2, .int (zI 0)), (1, .int (zI 0)), (0, .ref (B + 22))]) hx hb dX0_idleRules_3 rfl hl (by decide) rfl (fun ls hl => ?_)
  have lp4 : ∀ (f : Nat) (v2_4 : Int) (v1_4 : Int), (0 ≤ v2_4 ∧ v2_4 ≤ 8) → (0 ≤ v1_4 ∧ v1_4 ≤ 4095) → (Int.toNat (8 - v2_4) < f) → ∀ (H : Heap) (locs : List Loc) (ls : Array Slot), Wd D B cy s s.heap M H locs → lv_has ls 3 [(2, .int (zI v2_4)), (1, .int (zI v1_4)), (0, .ref (B + 22))] → W p l e (rmm 0 0) s m args below meth c H locs 0 0 Q (F0 m 4 ls []) := by
    intro f
    induction f with
    | zero => intros; omega
    | succ f ih4 =>
      intro v2_4 v1_4  iv2_4 iv1_4 hf4 H locs ls w hl
      refine lv_iload_n hx hb dX0_idleRules_4 rfl (lv_at hl 0 rfl) ?_
      refine lv_aload_n hx hb dX0_idleRules_5 rfl (lv_at hl 2 rfl) ?_
      refine f_0_7 F w (a := 22) rfl tb_188 dX0_idleRules_6 ?_
      obtain ⟨z1, bz1, ez1⟩ := Inv.ld (k := 7) hI (show iv 22 7 = (0, 8) from rfl) (show 22 < 146 by decide)
      refine r_val ez1 ?_
      refine z_icmp_ge (tgt := 33) hx hb (by omega) (by omega) dX0_idleRules_9 (by decide) (fun c2 => ?_) (fun c2 => ?_)
      · refine lv_iload_n hx hb dX0_idleRules_33 rfl (lv_at hl 1 rfl) ?_
        rw [hQ]
        exact e_i F w hr hlocks ⟨_, rfl, (by omega), rfl⟩ dX0_idleRules_34
      · refine lv_aload_n hx hb dX0_idleRules_12 rfl (lv_at hl 2 rfl) ?_
        refine f_0_5 F w (a := 22) rfl tb_193 dX0_idleRules_13 ?_
        refine lv_iload_n hx hb dX0_idleRules_16 rfl (lv_at hl 0 rfl) ?_
        refine g_iald F w (a := 26) rfl (j := (Int.toNat v2_4)) (ix_z (by omega) (by omega)) (by omega) dX0_idleRules_17 ?_
        obtain ⟨z3, bz3, ez3⟩ := Inv.ld (k := (Int.toNat v2_4)) hI (show iv 26 (Int.toNat v2_4) = ((-2147483648), 2147483647) from rfl) (show 26 < 146 by decide)
        refine r_val ez3 ?_
        refine z_if_ne (tgt := 27) hx hb (by omega) dX0_idleRules_18 (by decide) (fun c4 => ?_) (fun c4 => ?_)
        · refine z_iinc (v := (v2_4 + 1)) (lv' := [(2, .int (zI (v2_4 + 1))), (1, .int (zI v1_4)), (0, .ref (B + 22))]) hx hb dX0_idleRules_27 hl (k := 0) rfl (by omega) (by decide) rfl (fun ls hl => ?_)
          refine lv_goto (tgt := 4) hx hb dX0_idleRules_30 (by decide) ?_
          exact ih4 (v2_4 + 1) v1_4 (by omega) (by omega)     (by omega) _ _ _ w (lv_sub hl [0, 1, 2] rfl)
        · refine lv_iload_n hx hb dX0_idleRules_21 rfl (lv_at hl 1 rfl) ?_
          refine lv_iconst (v := zI 1) hx hb dX0_idleRules_22 rfl ?_
          refine lv_iload_n hx hb dX0_idleRules_23 rfl (lv_at hl 0 rfl) ?_
          obtain ⟨z5, bz5, x0z5, ez5⟩ := shl_ex 1 v2_4
          refine lv_ishl hx hb dX0_idleRules_24 ?_
          refine r_val ez5 ?_
          obtain ⟨z6, bz6, x0z6, ez6⟩ := or_ex v1_4 z5
          refine lv_ior hx hb dX0_idleRules_25 ?_
          refine r_val ez6 ?_
          refine lv_istore_n (lv' := [(1, .int (zI z6)), (2, .int (zI v2_4)), (0, .ref (B + 22))]) hx hb dX0_idleRules_26 rfl hl (by decide) rfl (fun ls hl => ?_)
          refine z_iinc (v := (v2_4 + 1)) (lv' := [(2, .int (zI (v2_4 + 1))), (1, .int (zI z6)), (0, .ref (B + 22))]) hx hb dX0_idleRules_27 hl (k := 1) rfl (by omega) (by decide) rfl (fun ls hl => ?_)
          refine lv_goto (tgt := 4) hx hb dX0_idleRules_30 (by decide) ?_
          exact ih4 (v2_4 + 1) z6 (by omega) (by omega)     (by omega) _ _ _ w (lv_sub hl [0, 1, 2] rfl)
  exact lp4 _ 0 0 (by omega) (by omega) (Nat.lt_succ_self _) _ _ _ w (lv_sub hl [0, 1, 2] rfl)
theorem dX0_finish_0 : decode cX0_finish 0 = .ok (.iconst 0, 1) := dq0 kk_3 (by decide +kernel)
theorem dX0_finish_1 : decode cX0_finish 1 = .ok (.iload_n 2, 1) := dq0 kk_28 (by decide +kernel)
theorem dX0_finish_2 : decode cX0_finish 2 = .ok (.invokestatic 73, 3) := dqV kk_184 (by decide +kernel)
theorem tb_201 : Cond.methodLink "ToneLines$Derivation" 73 yJ9_max_7cf53 ∈ TB := tbm (tc4 (List.mem_of_getElem? (i := 218) rfl)) rfl
theorem dX0_finish_5 : decode cX0_finish 5 = .ok (.istore_n 3, 1) := dq0 kk_62 (by decide +kernel)
theorem dX0_finish_6 : decode cX0_finish 6 = .ok (.iload_n 3, 1) := dq0 kk_29 (by decide +kernel)
theorem dX0_finish_7 : decode cX0_finish 7 = .ok (.aload_n 0, 1) := dq0 kk_42 (by decide +kernel)
theorem dX0_finish_8 : decode cX0_finish 8 = .ok (.getfield 24, 3) := dqV kk_180 (by decide +kernel)
theorem dX0_finish_11 : decode cX0_finish 11 = .ok (.if_icmp .ge 24, 3) := dqT kk_162 (by decide +kernel)
theorem dX0_finish_35 : decode cX0_finish 35 = .ok (.return_, 1) := dq0 kk_177 (by decide +kernel)
theorem dX0_finish_14 : decode cX0_finish 14 = .ok (.aload_n 0, 1) := dq0 kk_42 (by decide +kernel)
theorem dX0_finish_15 : decode cX0_finish 15 = .ok (.getfield 12, 3) := dqV kk_180 (by decide +kernel)
theorem dX0_finish_18 : decode cX0_finish 18 = .ok (.aload_n 0, 1) := dq0 kk_42 (by decide +kernel)
theorem dX0_finish_19 : decode cX0_finish 19 = .ok (.getfield 20, 3) := dqV kk_180 (by decide +kernel)
theorem dX0_finish_22 : decode cX0_finish 22 = .ok (.iload_n 3, 1) := dq0 kk_29 (by decide +kernel)
theorem dX0_finish_23 : decode cX0_finish 23 = .ok (.aaload, 1) := dq0 kk_50 (by decide +kernel)
theorem dX0_finish_24 : decode cX0_finish 24 = .ok (.aload_n 1, 1) := dq0 kk_43 (by decide +kernel)
theorem dX0_finish_25 : decode cX0_finish 25 = .ok (.invokevirtual 67, 3) := dqV kk_182 (by decide +kernel)
theorem dX0_finish_28 : decode cX0_finish 28 = .ok (.pop, 1) := dq0 kk_87 (by decide +kernel)
theorem dX0_finish_29 : decode cX0_finish 29 = .ok (.iinc 3 1, 3) := dqI kk_132 (by decide +kernel)
theorem dX0_finish_32 : decode cX0_finish 32 = .ok (.goto (-26), 3) := dqT kk_167 (by decide +kernel)
set_option maxRecDepth 4000 in
theorem q_X0_finish {l : Launch} {D : va_G} {B : Nat} {cy : Nat → ClassId} {M : Mem} {a : Nat} (hka : kd a = (9, 0, 0)) {x : Int} (hx : (-2147483648) ≤ x ∧ x ≤ 2147483647) (hI : Inv M) : Cv l D B cy yX0_finish cX0_finish 4 5 133 [.ref (B + 22), .ref (B + a), .int (zI x)] M (fun M1 => Inv M1 ∧ Fr (fun b9 k9 => (b9 = 23 ∧ k9 = 0) ∨ b9 = (a + 1) ∨ b9 = (a + 2) ∨ b9 = a) M1 M) := by
  refine s_anyQ (by decide) (Nat.le_of_ble_eq_true rfl) ?_
  intro p e s m args below meth c ls Q F hr hlocks hQ w hl
  have F : CallFix p m c cX0_finish 4 s args TB RX0 := F
  have hx := F.1
  have hb := F.2.1
  have hl : lv_has ls 4 [(0, .ref (B + 22)), (1, .ref (B + a)), (2, .int (zI x))] := hl
  have hF : Fr (fun b9 k9 => (b9 = 23 ∧ k9 = 0) ∨ b9 = (a + 1) ∨ b9 = (a + 2) ∨ b9 = a) M M := Fr.rf
  refine lv_iconst (v := zI 0) hx hb dX0_finish_0 rfl ?_
  refine lv_iload_n hx hb dX0_finish_1 rfl (lv_at hl 2 rfl) ?_
  obtain ⟨z1, bz1, ez1⟩ := max_ex 0 x (by omega) (by omega)
  refine g_max F hl.1 tb_201 tb_51 tb_52 tq_max (Nat.le_of_ble_eq_true rfl) (Nat.le_of_ble_eq_true rfl) (Nat.zero_le _) (Nat.zero_le _) (v := zI z1) ez1 dX0_finish_2 ?_
  refine lv_istore_n (lv' := [(3, .int (zI z1)), (0, .ref (B + 22)), (1, .ref (B + a)), (2, .int (zI x))]) hx hb dX0_finish_5 rfl hl (by decide) rfl (fun ls hl => ?_)
  have lp6 : ∀ (f : Nat) (v3_6 : Int)  (NL6 : Mem), (0 ≤ v3_6 ∧ v3_6 ≤ 2147483647) → Inv NL6 → Fr (fun b9 k9 => (b9 = 23 ∧ k9 = 0) ∨ b9 = (a + 1) ∨ b9 = (a + 2) ∨ b9 = a) NL6 M → (Int.toNat (8 - v3_6) < f) → ∀ (H : Heap) (locs : List Loc) (ls : Array Slot), Wd D B cy s s.heap NL6 H locs → lv_has ls 4 [(3, .int (zI v3_6)), (0, .ref (B + 22)), (1, .ref (B + a)), (2, .int (zI x))] → W p l e (rmm 5 133) s m args below meth c H locs 0 0 Q (F0 m 6 ls []) := by
    intro f
    induction f with
    | zero => intros; omega
    | succ f ih6 =>
      intro v3_6  NL6 iv3_6 hIL6 hFL6 hf6 H locs ls w hl
      refine lv_iload_n hx hb dX0_finish_6 rfl (lv_at hl 0 rfl) ?_
      refine lv_aload_n hx hb dX0_finish_7 rfl (lv_at hl 1 rfl) ?_
      refine f_0_2 F w (a := 22) rfl tb_176 dX0_finish_8 ?_
      obtain ⟨z2, bz2, ez2⟩ := Inv.ld (k := 2) hIL6 (show iv 22 2 = (0, 8) from rfl) (show 22 < 146 by decide)
      refine r_val ez2 ?_
      refine z_icmp_ge (tgt := 35) hx hb (by omega) (by omega) dX0_finish_11 (by decide) (fun c3 => ?_) (fun c3 => ?_)
      · rw [hQ]
        exact e_v F w hr hlocks ⟨hIL6, hFL6⟩ dX0_finish_35
      · refine lv_aload_n hx hb dX0_finish_14 rfl (lv_at hl 1 rfl) ?_
        refine f_0_0 F w (a := 22) rfl tb_194 dX0_finish_15 ?_
        refine lv_aload_n hx hb dX0_finish_18 rfl (lv_at hl 1 rfl) ?_
        refine f_0_1 F w (a := 22) rfl tb_180 dX0_finish_19 ?_
        refine lv_iload_n hx hb dX0_finish_22 rfl (lv_at hl 0 rfl) ?_
        have hk4 := kd_lst (j := (Int.toNat v3_6)) (by omega)
        refine g_aldR F w (a := 24) rfl (j := (Int.toNat v3_6)) (o := (28 + 2 * (Int.toNat v3_6))) rfl (ix_z (by omega) (by omega)) (by omega) dX0_finish_23 ?_
        refine lv_aload_n hx hb dX0_finish_24 rfl (lv_at hl 2 rfl) ?_
        refine k_Vi F w (As := [.ref (B + (28 + 2 * (Int.toNat v3_6))), .ref (B + a)]) (rest := []) (a := 23) (kd_lt (a := 23) (show kd 23 = (1, 0, 0) from rfl) (by decide)) (sh_1 rfl _ _) rfl (q_X1_perform (u1 := (28 + 2 * (Int.toNat v3_6))) hk4 (a := a) hka  hIL6) gv_X0_67 hv_X1_perform ⟨(Nat.le_of_ble_eq_true rfl), (Nat.le_of_ble_eq_true rfl)⟩ hl.1 rfl (Nat.le_of_ble_eq_true rfl) ⟨Nat.zero_le _, Nat.zero_le _⟩ dX0_finish_25 (fun r5 N6 H locs hp w => ?_)
        obtain ⟨z7, rfl, bz7, hIN6, hFN6⟩ := hp
        have hGN6 := Fr.tr hFL6 hFN6 (S := (fun b9 k9 => (b9 = 23 ∧ k9 = 0) ∨ b9 = (a + 1) ∨ b9 = (a + 2) ∨ b9 = a)) (fun b k h => by first | omega | (dsimp only at h ⊢; omega))
        have kn8 : N6.1 22 2 = zI z2 := (hFN6 22 2 (by have := w_ap hka; first | omega | (dsimp only; omega))).trans (ez2)
        refine lv_pop hx hb dX0_finish_28 rfl ?_
        refine z_iinc (v := (v3_6 + 1)) (lv' := [(3, .int (zI (v3_6 + 1))), (0, .ref (B + 22)), (1, .ref (B + a)), (2, .int (zI x))]) hx hb dX0_finish_29 hl (k := 0) rfl (by omega) (by decide) rfl (fun ls hl => ?_)
        refine lv_goto (tgt := 6) hx hb dX0_finish_32 (by decide) ?_
        exact ih6 (v3_6 + 1) N6 (by omega)    hIN6 hGN6 (by omega) _ _ _ w (lv_sub hl [0, 1, 2, 3] rfl)
  exact lp6 _ z1 M (by omega) hI hF (Nat.lt_succ_self _) _ _ _ w (lv_sub hl [0, 1, 2, 3] rfl)
theorem dX2_keep_0 : decode cX2_keep 0 = .ok (.aload_n 0, 1) := wdX2_keep_0
theorem dX2_keep_1 : decode cX2_keep 1 = .ok (.getfield 11, 3) := wdX2_keep_1
theorem tb_202 : Cond.fieldLink "ToneLines$History" 11 "ToneLines$History" "ring" "[LToneLines$Word;" ∈ TB := wtb_200
theorem dX2_keep_4 : decode cX2_keep 4 = .ok (.aload_n 0, 1) := wdX2_keep_4
theorem dX2_keep_5 : decode cX2_keep 5 = .ok (.getfield 17, 3) := wdX2_keep_5
theorem tb_203 : Cond.fieldLink "ToneLines$History" 17 "ToneLines$History" "next" "I" ∈ TB := wtb_201
theorem dX2_keep_8 : decode cX2_keep 8 = .ok (.aaload, 1) := wdX2_keep_8
theorem dX2_keep_9 : decode cX2_keep 9 = .ok (.aload_n 1, 1) := wdX2_keep_9
theorem dX2_keep_10 : decode cX2_keep 10 = .ok (.invokevirtual 25, 3) := wdX2_keep_10
theorem tb_204 : Cond.methodLink "ToneLines$History" 25 yX9_copyFrom ∈ TB := wtb_202
theorem gv_X2_25 : GoodIn TB (wsV RX2 25 RX9 yX9_copyFrom (cw yX9_copyFrom cX9_copyFrom 2 none)) := goodIn_4 tb_204 tb_191 tb_192 tb_5 gc_X9_copyFrom
theorem dX2_keep_13 : decode cX2_keep 13 = .ok (.aload_n 0, 1) := wdX2_keep_13
theorem dX2_keep_14 : decode cX2_keep 14 = .ok (.aload_n 0, 1) := wdX2_keep_14
theorem dX2_keep_15 : decode cX2_keep 15 = .ok (.getfield 17, 3) := wdX2_keep_15
theorem dX2_keep_18 : decode cX2_keep 18 = .ok (.iconst 1, 1) := wdX2_keep_18
theorem dX2_keep_19 : decode cX2_keep 19 = .ok (.iadd, 1) := wdX2_keep_19
theorem dX2_keep_20 : decode cX2_keep 20 = .ok (.bipush 12, 2) := wdX2_keep_20
theorem dX2_keep_22 : decode cX2_keep 22 = .ok (.if_icmp .ge 12, 3) := wdX2_keep_22
theorem dX2_keep_34 : decode cX2_keep 34 = .ok (.iconst 0, 1) := wdX2_keep_34
theorem dX2_keep_35 : decode cX2_keep 35 = .ok (.putfield 17, 3) := wdX2_keep_35
theorem dX2_keep_38 : decode cX2_keep 38 = .ok (.aload_n 0, 1) := wdX2_keep_38
theorem dX2_keep_39 : decode cX2_keep 39 = .ok (.aload_n 0, 1) := wdX2_keep_39
theorem dX2_keep_40 : decode cX2_keep 40 = .ok (.getfield 21, 3) := wdX2_keep_40
theorem tb_205 : Cond.fieldLink "ToneLines$History" 21 "ToneLines$History" "acts" "I" ∈ TB := wtb_203
theorem dX2_keep_43 : decode cX2_keep 43 = .ok (.iconst 1, 1) := wdX2_keep_43
theorem dX2_keep_44 : decode cX2_keep 44 = .ok (.iadd, 1) := wdX2_keep_44
theorem dX2_keep_45 : decode cX2_keep 45 = .ok (.bipush 12, 2) := wdX2_keep_45
theorem dX2_keep_47 : decode cX2_keep 47 = .ok (.invokestatic 29, 3) := wdX2_keep_47
theorem tb_206 : Cond.methodLink "ToneLines$History" 29 yJ9_min_7cf53 ∈ TB := wtb_204
theorem dX2_keep_50 : decode cX2_keep 50 = .ok (.putfield 21, 3) := wdX2_keep_50
theorem dX2_keep_53 : decode cX2_keep 53 = .ok (.return_, 1) := wdX2_keep_53
theorem dX2_keep_25 : decode cX2_keep 25 = .ok (.aload_n 0, 1) := wdX2_keep_25
theorem dX2_keep_26 : decode cX2_keep 26 = .ok (.getfield 17, 3) := wdX2_keep_26
theorem dX2_keep_29 : decode cX2_keep 29 = .ok (.iconst 1, 1) := wdX2_keep_29
theorem dX2_keep_30 : decode cX2_keep 30 = .ok (.iadd, 1) := wdX2_keep_30
theorem dX2_keep_31 : decode cX2_keep 31 = .ok (.goto 4, 3) := wdX2_keep_31
set_option maxRecDepth 4000 in
theorem q_X2_keep {l : Launch} {D : va_G} {B : Nat} {cy : Nat → ClassId} {M : Mem} {a : Nat} (hka : kd a = (9, 0, 0)) (hI : Inv M) : Cv l D B cy yX2_keep cX2_keep 2 2 61 [.ref (B + 71), .ref (B + a)] M (fun M1 => Inv M1 ∧ Fr (fun b9 k9 => (b9 = 71 ∧ k9 = 1) ∨ (b9 = 71 ∧ k9 = 2) ∨ (73 ≤ b9 ∧ b9 ≤ 108)) M1 M) := by
  refine s_anyQ (by decide) (Nat.le_of_ble_eq_true rfl) ?_
  intro p e s m args below meth c ls Q F hr hlocks hQ w hl
  have F : CallFix p m c cX2_keep 2 s args TB RX2 := F
  have hx := F.1
  have hb := F.2.1
  have hl : lv_has ls 2 [(0, .ref (B + 71)), (1, .ref (B + a))] := hl
  have hF : Fr (fun b9 k9 => (b9 = 71 ∧ k9 = 1) ∨ (b9 = 71 ∧ k9 = 2) ∨ (73 ≤ b9 ∧ b9 ≤ 108)) M M := Fr.rf
  refine lv_aload_n hx hb dX2_keep_0 rfl (lv_at hl 0 rfl) ?_
  refine f_2_0 F w (a := 71) rfl tb_202 dX2_keep_1 ?_
  refine lv_aload_n hx hb dX2_keep_4 rfl (lv_at hl 0 rfl) ?_
  refine f_2_1 F w (a := 71) rfl tb_203 dX2_keep_5 ?_
  obtain ⟨z1, bz1, ez1⟩ := Inv.ld (k := 1) hI (show iv 71 1 = (0, 11) from rfl) (show 71 < 146 by decide)
  refine r_val ez1 ?_
  have hk2 := kd_rng (j := (Int.toNat z1)) (by omega)
  refine g_aldW F w (a := 72) rfl (j := (Int.toNat z1)) (o := (73 + 3 * (Int.toNat z1))) rfl (ix_z (by omega) (by omega)) (by omega) dX2_keep_8 ?_
  refine lv_aload_n hx hb dX2_keep_9 rfl (lv_at hl 1 rfl) ?_
  refine k_Vv F w (As := [.ref (B + a)]) (rest := []) (a := (73 + 3 * (Int.toNat z1))) (kd_lt (a := (73 + 3 * (Int.toNat z1))) hk2 (by decide)) (sh_9 hk2 _ _) rfl (q_X9_copyFrom (a := (73 + 3 * (Int.toNat z1))) hk2 (d := a) hka  hI) gv_X2_25 hv_X9_copyFrom ⟨(Nat.le_of_ble_eq_true rfl), (Nat.le_of_ble_eq_true rfl)⟩ hl.1 rfl (Nat.le_of_ble_eq_true rfl) ⟨Nat.zero_le _, Nat.zero_le _⟩ dX2_keep_10 (fun N4 H locs hp w => ?_)
  obtain ⟨hIN4, hFN4⟩ := hp
  have hGN4 := Fr.tr hF hFN4 (S := (fun b9 k9 => (b9 = 71 ∧ k9 = 1) ∨ (b9 = 71 ∧ k9 = 2) ∨ (73 ≤ b9 ∧ b9 ≤ 108))) (fun b k h => by first | omega | (dsimp only at h ⊢; omega))
  have kn6 : N4.1 71 1 = zI z1 := (hFN4 71 1 (by first | omega | (dsimp only; omega))).trans (ez1)
  refine lv_aload_n hx hb dX2_keep_13 rfl (lv_at hl 0 rfl) ?_
  refine lv_aload_n hx hb dX2_keep_14 rfl (lv_at hl 0 rfl) ?_
  refine f_2_1 F w (a := 71) rfl tb_203 dX2_keep_15 ?_
  refine r_val (v := zI z1) (kn6) ?_
  refine lv_iconst (v := zI 1) hx hb dX2_keep_18 rfl ?_
  refine z_iadd (z := (z1 + 1)) hx hb dX2_keep_19 (by omega) ?_
  refine lv_bipush (v := zI 12) hx hb dX2_keep_20 (by decide) ?_
  refine z_icmp_ge (tgt := 34) hx hb (by omega) (by omega) dX2_keep_22 (by decide) (fun c7 => ?_) (fun c7 => ?_)
  · refine lv_iconst (v := zI 0) hx hb dX2_keep_34 rfl ?_
    refine u_2_1 F w (a := 71) rfl tb_203 dX2_keep_35 (fun H locs w => ?_)
    refine lv_aload_n hx hb dX2_keep_38 rfl (lv_at hl 0 rfl) ?_
    refine lv_aload_n hx hb dX2_keep_39 rfl (lv_at hl 0 rfl) ?_
    refine f_2_2 F w (a := 71) rfl tb_205 dX2_keep_40 ?_
    obtain ⟨z8, bz8, ez8⟩ := Inv.ld (k := 2) (Inv.to hIN4 (a := 71) (k := 1) (x := 0) (show iv 71 1 = (0, 11) from rfl) (by omega)) (show iv 71 2 = (0, 12) from rfl) (show 71 < 146 by decide)
    refine r_val ez8 ?_
    refine lv_iconst (v := zI 1) hx hb dX2_keep_43 rfl ?_
    refine z_iadd (z := (z8 + 1)) hx hb dX2_keep_44 (by omega) ?_
    refine lv_bipush (v := zI 12) hx hb dX2_keep_45 (by decide) ?_
    obtain ⟨z9, bz9, ez9⟩ := min_ex (z8 + 1) 12 (by omega) (by omega)
    refine g_min F hl.1 tb_206 tb_178 tb_52 tq_min (Nat.le_of_ble_eq_true rfl) (Nat.le_of_ble_eq_true rfl) (Nat.zero_le _) (Nat.zero_le _) (v := zI z9) ez9 dX2_keep_47 ?_
    refine u_2_2 F w (a := 71) rfl tb_205 dX2_keep_50 (fun H locs w => ?_)
    rw [hQ]
    exact e_v F w hr hlocks ⟨(Inv.to (Inv.to hIN4 (a := 71) (k := 1) (x := 0) (show iv 71 1 = (0, 11) from rfl) (by omega)) (a := 71) (k := 2) (x := z9) (show iv 71 2 = (0, 12) from rfl) (by omega)), (Fr.to (Fr.to hGN4 (by first | omega | (dsimp only; first | done | omega))) (by first | omega | (dsimp only; first | done | omega)))⟩ dX2_keep_53
  · refine lv_aload_n hx hb dX2_keep_25 rfl (lv_at hl 0 rfl) ?_
    refine f_2_1 F w (a := 71) rfl tb_203 dX2_keep_26 ?_
    refine r_val (v := zI z1) (kn6) ?_
    refine lv_iconst (v := zI 1) hx hb dX2_keep_29 rfl ?_
    refine z_iadd (z := (z1 + 1)) hx hb dX2_keep_30 (by omega) ?_
    refine lv_goto (tgt := 35) hx hb dX2_keep_31 (by decide) ?_
    refine u_2_1 F w (a := 71) rfl tb_203 dX2_keep_35 (fun H locs w => ?_)
    refine lv_aload_n hx hb dX2_keep_38 rfl (lv_at hl 0 rfl) ?_
    refine lv_aload_n hx hb dX2_keep_39 rfl (lv_at hl 0 rfl) ?_
    refine f_2_2 F w (a := 71) rfl tb_205 dX2_keep_40 ?_
    obtain ⟨z10, bz10, ez10⟩ := Inv.ld (k := 2) (Inv.to hIN4 (a := 71) (k := 1) (x := (z1 + 1)) (show iv 71 1 = (0, 11) from rfl) (by omega)) (show iv 71 2 = (0, 12) from rfl) (show 71 < 146 by decide)
    refine r_val ez10 ?_
    refine lv_iconst (v := zI 1) hx hb dX2_keep_43 rfl ?_
    refine z_iadd (z := (z10 + 1)) hx hb dX2_keep_44 (by omega) ?_
    refine lv_bipush (v := zI 12) hx hb dX2_keep_45 (by decide) ?_
    obtain ⟨z11, bz11, ez11⟩ := min_ex (z10 + 1) 12 (by omega) (by omega)
    refine g_min F hl.1 tb_206 tb_178 tb_52 tq_min (Nat.le_of_ble_eq_true rfl) (Nat.le_of_ble_eq_true rfl) (Nat.zero_le _) (Nat.zero_le _) (v := zI z11) ez11 dX2_keep_47 ?_
    refine u_2_2 F w (a := 71) rfl tb_205 dX2_keep_50 (fun H locs w => ?_)
    rw [hQ]
    exact e_v F w hr hlocks ⟨(Inv.to (Inv.to hIN4 (a := 71) (k := 1) (x := (z1 + 1)) (show iv 71 1 = (0, 11) from rfl) (by omega)) (a := 71) (k := 2) (x := z11) (show iv 71 2 = (0, 12) from rfl) (by omega)), (Fr.to (Fr.to hGN4 (by first | omega | (dsimp only; first | done | omega))) (by first | omega | (dsimp only; first | done | omega)))⟩ dX2_keep_53
theorem dX2_giveBack_0 : decode cX2_giveBack 0 = .ok (.aload_n 0, 1) := wdX2_giveBack_0
theorem dX2_giveBack_1 : decode cX2_giveBack 1 = .ok (.getfield 21, 3) := wdX2_giveBack_1
theorem dX2_giveBack_4 : decode cX2_giveBack 4 = .ok (.ifCond .le 48, 3) := wdX2_giveBack_4
theorem dX2_giveBack_52 : decode cX2_giveBack 52 = .ok (.return_, 1) := wdX2_giveBack_52
theorem dX2_giveBack_7 : decode cX2_giveBack 7 = .ok (.aload_n 0, 1) := wdX2_giveBack_7
theorem dX2_giveBack_8 : decode cX2_giveBack 8 = .ok (.aload_n 0, 1) := wdX2_giveBack_8
theorem dX2_giveBack_9 : decode cX2_giveBack 9 = .ok (.getfield 17, 3) := wdX2_giveBack_9
theorem dX2_giveBack_12 : decode cX2_giveBack 12 = .ok (.ifCond .le 12, 3) := wdX2_giveBack_12
theorem dX2_giveBack_24 : decode cX2_giveBack 24 = .ok (.bipush 11, 2) := wdX2_giveBack_24
theorem dX2_giveBack_26 : decode cX2_giveBack 26 = .ok (.putfield 17, 3) := wdX2_giveBack_26
theorem dX2_giveBack_29 : decode cX2_giveBack 29 = .ok (.aload_n 0, 1) := wdX2_giveBack_29
theorem dX2_giveBack_30 : decode cX2_giveBack 30 = .ok (.dup, 1) := wdX2_giveBack_30
theorem dX2_giveBack_31 : decode cX2_giveBack 31 = .ok (.getfield 21, 3) := wdX2_giveBack_31
theorem dX2_giveBack_34 : decode cX2_giveBack 34 = .ok (.iconst 1, 1) := wdX2_giveBack_34
theorem dX2_giveBack_35 : decode cX2_giveBack 35 = .ok (.isub, 1) := wdX2_giveBack_35
theorem dX2_giveBack_36 : decode cX2_giveBack 36 = .ok (.putfield 21, 3) := wdX2_giveBack_36
theorem dX2_giveBack_39 : decode cX2_giveBack 39 = .ok (.aload_n 1, 1) := wdX2_giveBack_39
theorem dX2_giveBack_40 : decode cX2_giveBack 40 = .ok (.aload_n 0, 1) := wdX2_giveBack_40
theorem dX2_giveBack_41 : decode cX2_giveBack 41 = .ok (.getfield 11, 3) := wdX2_giveBack_41
theorem dX2_giveBack_44 : decode cX2_giveBack 44 = .ok (.aload_n 0, 1) := wdX2_giveBack_44
theorem dX2_giveBack_45 : decode cX2_giveBack 45 = .ok (.getfield 17, 3) := wdX2_giveBack_45
theorem dX2_giveBack_48 : decode cX2_giveBack 48 = .ok (.aaload, 1) := wdX2_giveBack_48
theorem dX2_giveBack_49 : decode cX2_giveBack 49 = .ok (.invokevirtual 25, 3) := wdX2_giveBack_49
theorem dX2_giveBack_15 : decode cX2_giveBack 15 = .ok (.aload_n 0, 1) := wdX2_giveBack_15
theorem dX2_giveBack_16 : decode cX2_giveBack 16 = .ok (.getfield 17, 3) := wdX2_giveBack_16
theorem dX2_giveBack_19 : decode cX2_giveBack 19 = .ok (.iconst 1, 1) := wdX2_giveBack_19
theorem dX2_giveBack_20 : decode cX2_giveBack 20 = .ok (.isub, 1) := wdX2_giveBack_20
theorem dX2_giveBack_21 : decode cX2_giveBack 21 = .ok (.goto 5, 3) := wdX2_giveBack_21
set_option maxRecDepth 4000 in
theorem q_X2_giveBack {l : Launch} {D : va_G} {B : Nat} {cy : Nat → ClassId} {M : Mem} {a : Nat} (hka : kd a = (9, 0, 0)) (hI : Inv M) : Cv l D B cy yX2_giveBack cX2_giveBack 2 2 61 [.ref (B + 71), .ref (B + a)] M (fun M1 => Inv M1 ∧ Fr (fun b9 k9 => (b9 = 71 ∧ k9 = 1) ∨ (b9 = 71 ∧ k9 = 2) ∨ b9 = (a + 1) ∨ b9 = (a + 2) ∨ b9 = a) M1 M) := by
  refine s_anyQ (by decide) (Nat.le_of_ble_eq_true rfl) ?_
  intro p e s m args below meth c ls Q F hr hlocks hQ w hl
  have F : CallFix p m c cX2_giveBack 2 s args TB RX2 := F
  have hx := F.1
  have hb := F.2.1
  have hl : lv_has ls 2 [(0, .ref (B + 71)), (1, .ref (B + a))] := hl
  have hF : Fr (fun b9 k9 => (b9 = 71 ∧ k9 = 1) ∨ (b9 = 71 ∧ k9 = 2) ∨ b9 = (a + 1) ∨ b9 = (a + 2) ∨ b9 = a) M M := Fr.rf
  refine lv_aload_n hx hb dX2_giveBack_0 rfl (lv_at hl 0 rfl) ?_
  refine f_2_2 F w (a := 71) rfl tb_205 dX2_giveBack_1 ?_
  obtain ⟨z1, bz1, ez1⟩ := Inv.ld (k := 2) hI (show iv 71 2 = (0, 12) from rfl) (show 71 < 146 by decide)
  refine r_val ez1 ?_
  refine z_if_le (tgt := 52) hx hb (by omega) dX2_giveBack_4 (by decide) (fun c2 => ?_) (fun c2 => ?_)
  · rw [hQ]
    exact e_v F w hr hlocks ⟨hI, hF⟩ dX2_giveBack_52
  · refine lv_aload_n hx hb dX2_giveBack_7 rfl (lv_at hl 0 rfl) ?_
    refine lv_aload_n hx hb dX2_giveBack_8 rfl (lv_at hl 0 rfl) ?_
    refine f_2_1 F w (a := 71) rfl tb_203 dX2_giveBack_9 ?_
    obtain ⟨z3, bz3, ez3⟩ := Inv.ld (k := 1) hI (show iv 71 1 = (0, 11) from rfl) (show 71 < 146 by decide)
    refine r_val ez3 ?_
    refine z_if_le (tgt := 24) hx hb (by omega) dX2_giveBack_12 (by decide) (fun c4 => ?_) (fun c4 => ?_)
    · refine lv_bipush (v := zI 11) hx hb dX2_giveBack_24 (by decide) ?_
      refine u_2_1 F w (a := 71) rfl tb_203 dX2_giveBack_26 (fun H locs w => ?_)
      refine lv_aload_n hx hb dX2_giveBack_29 rfl (lv_at hl 0 rfl) ?_
      refine lv_dup hx hb dX2_giveBack_30 rfl ?_
      refine f_2_2 F w (a := 71) rfl tb_205 dX2_giveBack_31 ?_
      refine r_val (v := zI z1) ((st_ne (Or.inr (by decide))).trans ez1) ?_
      refine lv_iconst (v := zI 1) hx hb dX2_giveBack_34 rfl ?_
      refine z_isub (z := (z1 - 1)) hx hb dX2_giveBack_35 (by omega) ?_
      refine u_2_2 F w (a := 71) rfl tb_205 dX2_giveBack_36 (fun H locs w => ?_)
      refine lv_aload_n hx hb dX2_giveBack_39 rfl (lv_at hl 1 rfl) ?_
      refine lv_aload_n hx hb dX2_giveBack_40 rfl (lv_at hl 0 rfl) ?_
      refine f_2_0 F w (a := 71) rfl tb_202 dX2_giveBack_41 ?_
      refine lv_aload_n hx hb dX2_giveBack_44 rfl (lv_at hl 0 rfl) ?_
      refine f_2_1 F w (a := 71) rfl tb_203 dX2_giveBack_45 ?_
      refine r_val (v := zI 11) ((st_ne (Or.inr (by decide))).trans st_at) ?_
      refine g_aldW F w (a := 72) rfl (j := 11) (o := 106) rfl ⟨by decide, by decide⟩ (by decide) dX2_giveBack_48 ?_
      refine k_Vv F w (As := [.ref (B + 106)]) (rest := []) (a := a) (kd_lt (a := a) hka (by decide)) (sh_9 hka _ _) rfl (q_X9_copyFrom (a := a) hka (d := 106) rfl  (Inv.to (Inv.to hI (a := 71) (k := 1) (x := 11) (show iv 71 1 = (0, 11) from rfl) (by omega)) (a := 71) (k := 2) (x := (z1 - 1)) (show iv 71 2 = (0, 12) from rfl) (by omega))) gv_X2_25 hv_X9_copyFrom ⟨(Nat.le_of_ble_eq_true rfl), (Nat.le_of_ble_eq_true rfl)⟩ hl.1 rfl (Nat.le_of_ble_eq_true rfl) ⟨Nat.zero_le _, Nat.zero_le _⟩ dX2_giveBack_49 (fun N6 H locs hp w => ?_)
      obtain ⟨hIN6, hFN6⟩ := hp
      have hGN6 := Fr.tr (Fr.to (Fr.to hF (by first | omega | (dsimp only; first | done | omega))) (by first | omega | (dsimp only; first | done | omega))) hFN6 (S := (fun b9 k9 => (b9 = 71 ∧ k9 = 1) ∨ (b9 = 71 ∧ k9 = 2) ∨ b9 = (a + 1) ∨ b9 = (a + 2) ∨ b9 = a)) (fun b k h => by first | omega | (dsimp only at h ⊢; omega))
      have kn8 : N6.1 71 2 = zI (z1 - 1) := (hFN6 71 2 (by have := w_ap hka; first | omega | (dsimp only; omega))).trans (st_at)
      have kn9 : N6.1 71 1 = zI 11 := (hFN6 71 1 (by have := w_ap hka; first | omega | (dsimp only; omega))).trans ((st_ne (Or.inr (by decide))).trans st_at)
      rw [hQ]
      exact e_v F w hr hlocks ⟨hIN6, hGN6⟩ dX2_giveBack_52
    · refine lv_aload_n hx hb dX2_giveBack_15 rfl (lv_at hl 0 rfl) ?_
      refine f_2_1 F w (a := 71) rfl tb_203 dX2_giveBack_16 ?_
      refine r_val (v := zI z3) (ez3) ?_
      refine lv_iconst (v := zI 1) hx hb dX2_giveBack_19 rfl ?_
      refine z_isub (z := (z3 - 1)) hx hb dX2_giveBack_20 (by omega) ?_
      refine lv_goto (tgt := 26) hx hb dX2_giveBack_21 (by decide) ?_
      refine u_2_1 F w (a := 71) rfl tb_203 dX2_giveBack_26 (fun H locs w => ?_)
      refine lv_aload_n hx hb dX2_giveBack_29 rfl (lv_at hl 0 rfl) ?_
      refine lv_dup hx hb dX2_giveBack_30 rfl ?_
      refine f_2_2 F w (a := 71) rfl tb_205 dX2_giveBack_31 ?_
      refine r_val (v := zI z1) ((st_ne (Or.inr (by decide))).trans ez1) ?_
      refine lv_iconst (v := zI 1) hx hb dX2_giveBack_34 rfl ?_
      refine z_isub (z := (z1 - 1)) hx hb dX2_giveBack_35 (by omega) ?_
      refine u_2_2 F w (a := 71) rfl tb_205 dX2_giveBack_36 (fun H locs w => ?_)
      refine lv_aload_n hx hb dX2_giveBack_39 rfl (lv_at hl 1 rfl) ?_
      refine lv_aload_n hx hb dX2_giveBack_40 rfl (lv_at hl 0 rfl) ?_
      refine f_2_0 F w (a := 71) rfl tb_202 dX2_giveBack_41 ?_
      refine lv_aload_n hx hb dX2_giveBack_44 rfl (lv_at hl 0 rfl) ?_
      refine f_2_1 F w (a := 71) rfl tb_203 dX2_giveBack_45 ?_
      refine r_val (v := zI (z3 - 1)) ((st_ne (Or.inr (by decide))).trans st_at) ?_
      have hk10 := kd_rng (j := (Int.toNat (z3 - 1))) (by omega)
      refine g_aldW F w (a := 72) rfl (j := (Int.toNat (z3 - 1))) (o := (73 + 3 * (Int.toNat (z3 - 1)))) rfl (ix_z (by omega) (by omega)) (by omega) dX2_giveBack_48 ?_
      refine k_Vv F w (As := [.ref (B + (73 + 3 * (Int.toNat (z3 - 1))))]) (rest := []) (a := a) (kd_lt (a := a) hka (by decide)) (sh_9 hka _ _) rfl (q_X9_copyFrom (a := a) hka (d := (73 + 3 * (Int.toNat (z3 - 1)))) hk10  (Inv.to (Inv.to hI (a := 71) (k := 1) (x := (z3 - 1)) (show iv 71 1 = (0, 11) from rfl) (by omega)) (a := 71) (k := 2) (x := (z1 - 1)) (show iv 71 2 = (0, 12) from rfl) (by omega))) gv_X2_25 hv_X9_copyFrom ⟨(Nat.le_of_ble_eq_true rfl), (Nat.le_of_ble_eq_true rfl)⟩ hl.1 rfl (Nat.le_of_ble_eq_true rfl) ⟨Nat.zero_le _, Nat.zero_le _⟩ dX2_giveBack_49 (fun N12 H locs hp w => ?_)
      obtain ⟨hIN12, hFN12⟩ := hp
      have hGN12 := Fr.tr (Fr.to (Fr.to hF (by first | omega | (dsimp only; first | done | omega))) (by first | omega | (dsimp only; first | done | omega))) hFN12 (S := (fun b9 k9 => (b9 = 71 ∧ k9 = 1) ∨ (b9 = 71 ∧ k9 = 2) ∨ b9 = (a + 1) ∨ b9 = (a + 2) ∨ b9 = a)) (fun b k h => by first | omega | (dsimp only at h ⊢; omega))
      have kn14 : N12.1 71 2 = zI (z1 - 1) := (hFN12 71 2 (by have := w_ap hka; first | omega | (dsimp only; omega))).trans (st_at)
      have kn15 : N12.1 71 1 = zI (z3 - 1) := (hFN12 71 1 (by have := w_ap hka; first | omega | (dsimp only; omega))).trans ((st_ne (Or.inr (by decide))).trans st_at)
      rw [hQ]
      exact e_v F w hr hlocks ⟨hIN12, hGN12⟩ dX2_giveBack_52
theorem dX3_enter_0 : decode cX3_enter 0 = .ok (.iconst 0, 1) := dq0 kk_3 (by decide +kernel)
theorem dX3_enter_1 : decode cX3_enter 1 = .ok (.istore 5, 2) := dqU kk_54 (by decide +kernel)
theorem dX3_enter_3 : decode cX3_enter 3 = .ok (.iload 5, 2) := dqU kk_21 (by decide +kernel)
theorem dX3_enter_5 : decode cX3_enter 5 = .ok (.aload_n 0, 1) := dq0 kk_42 (by decide +kernel)
theorem dX3_enter_6 : decode cX3_enter 6 = .ok (.getfield 15, 3) := dqV kk_180 (by decide +kernel)
theorem tb_207 : Cond.fieldLink "ToneLines$Orders" 15 "ToneLines$Orders" "unlike" "I" ∈ TB := tbm (tc1 (List.mem_of_getElem? (i := 231) rfl)) rfl
theorem dX3_enter_9 : decode cX3_enter 9 = .ok (.if_icmp .ge 34, 3) := dqT kk_162 (by decide +kernel)
theorem dX3_enter_43 : decode cX3_enter 43 = .ok (.aload_n 0, 1) := dq0 kk_42 (by decide +kernel)
theorem dX3_enter_44 : decode cX3_enter 44 = .ok (.getfield 15, 3) := dqV kk_180 (by decide +kernel)
theorem dX3_enter_47 : decode cX3_enter 47 = .ok (.sipush 720, 3) := dqT kk_17 (by decide +kernel)
theorem dX3_enter_50 : decode cX3_enter 50 = .ok (.if_icmp .ge 33, 3) := dqT kk_162 (by decide +kernel)
theorem dX3_enter_53 : decode cX3_enter 53 = .ok (.aload_n 0, 1) := dq0 kk_42 (by decide +kernel)
theorem dX3_enter_54 : decode cX3_enter 54 = .ok (.getfield 32, 3) := dqV kk_180 (by decide +kernel)
theorem tb_208 : Cond.fieldLink "ToneLines$Orders" 32 "ToneLines$Orders" "kindsRead" "[J" ∈ TB := tbm (tc1 (List.mem_of_getElem? (i := 237) rfl)) rfl
theorem dX3_enter_57 : decode cX3_enter 57 = .ok (.aload_n 0, 1) := dq0 kk_42 (by decide +kernel)
theorem dX3_enter_58 : decode cX3_enter 58 = .ok (.getfield 15, 3) := dqV kk_180 (by decide +kernel)
theorem dX3_enter_61 : decode cX3_enter 61 = .ok (.lload_n 1, 1) := dq0 kk_31 (by decide +kernel)
theorem dX3_enter_62 : decode cX3_enter 62 = .ok (.lastore, 1) := dq0 kk_80 (by decide +kernel)
theorem dX3_enter_63 : decode cX3_enter 63 = .ok (.aload_n 0, 1) := dq0 kk_42 (by decide +kernel)
theorem dX3_enter_64 : decode cX3_enter 64 = .ok (.getfield 36, 3) := dqV kk_180 (by decide +kernel)
theorem tb_209 : Cond.fieldLink "ToneLines$Orders" 36 "ToneLines$Orders" "linesRead" "[J" ∈ TB := tbm (tc1 (List.mem_of_getElem? (i := 238) rfl)) rfl
theorem dX3_enter_67 : decode cX3_enter 67 = .ok (.aload_n 0, 1) := dq0 kk_42 (by decide +kernel)
theorem dX3_enter_68 : decode cX3_enter 68 = .ok (.getfield 15, 3) := dqV kk_180 (by decide +kernel)
theorem dX3_enter_71 : decode cX3_enter 71 = .ok (.lload_n 3, 1) := dq0 kk_33 (by decide +kernel)
theorem dX3_enter_72 : decode cX3_enter 72 = .ok (.lastore, 1) := dq0 kk_80 (by decide +kernel)
theorem dX3_enter_73 : decode cX3_enter 73 = .ok (.aload_n 0, 1) := dq0 kk_42 (by decide +kernel)
theorem dX3_enter_74 : decode cX3_enter 74 = .ok (.dup, 1) := dq0 kk_89 (by decide +kernel)
theorem dX3_enter_75 : decode cX3_enter 75 = .ok (.getfield 15, 3) := dqV kk_180 (by decide +kernel)
theorem dX3_enter_78 : decode cX3_enter 78 = .ok (.iconst 1, 1) := dq0 kk_4 (by decide +kernel)
theorem dX3_enter_79 : decode cX3_enter 79 = .ok (.iadd, 1) := dq0 kk_96 (by decide +kernel)
theorem dX3_enter_80 : decode cX3_enter 80 = .ok (.putfield 15, 3) := dqV kk_181 (by decide +kernel)
theorem dX3_enter_83 : decode cX3_enter 83 = .ok (.return_, 1) := dq0 kk_177 (by decide +kernel)
theorem dX3_enter_12 : decode cX3_enter 12 = .ok (.aload_n 0, 1) := dq0 kk_42 (by decide +kernel)
theorem dX3_enter_13 : decode cX3_enter 13 = .ok (.getfield 32, 3) := dqV kk_180 (by decide +kernel)
theorem dX3_enter_16 : decode cX3_enter 16 = .ok (.iload 5, 2) := dqU kk_21 (by decide +kernel)
theorem dX3_enter_18 : decode cX3_enter 18 = .ok (.laload, 1) := dq0 kk_47 (by decide +kernel)
theorem dX3_enter_19 : decode cX3_enter 19 = .ok (.lload_n 1, 1) := dq0 kk_31 (by decide +kernel)
theorem dX3_enter_20 : decode cX3_enter 20 = .ok (.lcmp, 1) := dq0 kk_148 (by decide +kernel)
theorem dX3_enter_21 : decode cX3_enter 21 = .ok (.ifCond .ne 16, 3) := dqT kk_154 (by decide +kernel)
theorem dX3_enter_37 : decode cX3_enter 37 = .ok (.iinc 5 1, 3) := dqI kk_132 (by decide +kernel)
theorem dX3_enter_40 : decode cX3_enter 40 = .ok (.goto (-37), 3) := dqT kk_167 (by decide +kernel)
theorem dX3_enter_24 : decode cX3_enter 24 = .ok (.aload_n 0, 1) := dq0 kk_42 (by decide +kernel)
theorem dX3_enter_25 : decode cX3_enter 25 = .ok (.getfield 36, 3) := dqV kk_180 (by decide +kernel)
theorem dX3_enter_28 : decode cX3_enter 28 = .ok (.iload 5, 2) := dqU kk_21 (by decide +kernel)
theorem dX3_enter_30 : decode cX3_enter 30 = .ok (.laload, 1) := dq0 kk_47 (by decide +kernel)
theorem dX3_enter_31 : decode cX3_enter 31 = .ok (.lload_n 3, 1) := dq0 kk_33 (by decide +kernel)
theorem dX3_enter_32 : decode cX3_enter 32 = .ok (.lcmp, 1) := dq0 kk_148 (by decide +kernel)
theorem dX3_enter_33 : decode cX3_enter 33 = .ok (.ifCond .ne 4, 3) := dqT kk_154 (by decide +kernel)
theorem dX3_enter_36 : decode cX3_enter 36 = .ok (.return_, 1) := dq0 kk_177 (by decide +kernel)
set_option maxRecDepth 4000 in
theorem q_X3_enter {l : Launch} {D : va_G} {B : Nat} {cy : Nat → ClassId} {M : Mem} {x : Int64} {x1 : Int64} (hI : Inv M) : Cv l D B cy yX3_enter cX3_enter 6 0 0 [.ref (B + 109), .long x, .long x1] M (fun M1 => Inv M1 ∧ Fr (fun b9 k9 => (b9 = 109 ∧ k9 = 1)) M1 M) := by
  refine s_anyQ (by decide) (Nat.le_of_ble_eq_true rfl) ?_
  intro p e s m args below meth c ls Q F hr hlocks hQ w hl
  have F : CallFix p m c cX3_enter 6 s args TB RX3 := F
  have hx := F.1
  have hb := F.2.1
  have hl : lv_has ls 6 [(0, .ref (B + 109)), (1, .long x), (3, .long x1)] := hl
  have hF : Fr (fun b9 k9 => (b9 = 109 ∧ k9 = 1)) M M := Fr.rf
  refine lv_iconst (v := zI 0) hx hb dX3_enter_0 rfl ?_
  refine lv_istore (lv' := [(5, .int (zI 0)), (0, .ref (B + 109)), (1, .long x), (3, .long x1)]) hx hb dX3_enter_1 hl (by decide) rfl (fun ls hl => ?_)
  have lp3 : ∀ (f : Nat) (v5_3 : Int), (0 ≤ v5_3 ∧ v5_3 ≤ 720) → (Int.toNat (720 - v5_3) < f) → ∀ (H : Heap) (locs : List Loc) (ls : Array Slot), Wd D B cy s s.heap M H locs → lv_has ls 6 [(5, .int (zI v5_3)), (0, .ref (B + 109)), (1, .long x), (3, .long x1)] → W p l e (rmm 0 0) s m args below meth c H locs 0 0 Q (F0 m 3 ls []) := by
    intro f
    induction f with
    | zero => intros; omega
    | succ f ih3 =>
      intro v5_3  iv5_3 hf3 H locs ls w hl
      refine lv_iload hx hb dX3_enter_3 (lv_at hl 0 rfl) ?_
      refine lv_aload_n hx hb dX3_enter_5 rfl (lv_at hl 1 rfl) ?_
      refine f_3_1 F w (a := 109) rfl tb_207 dX3_enter_6 ?_
      obtain ⟨z1, bz1, ez1⟩ := Inv.ld (k := 1) hI (show iv 109 1 = (0, 720) from rfl) (show 109 < 146 by decide)
      refine r_val ez1 ?_
      refine z_icmp_ge (tgt := 43) hx hb (by omega) (by omega) dX3_enter_9 (by decide) (fun c2 => ?_) (fun c2 => ?_)
      · refine lv_aload_n hx hb dX3_enter_43 rfl (lv_at hl 1 rfl) ?_
        refine f_3_1 F w (a := 109) rfl tb_207 dX3_enter_44 ?_
        refine r_val (v := zI z1) (ez1) ?_
        refine lv_sipush (v := zI 720) hx hb dX3_enter_47 (by decide) ?_
        refine z_icmp_ge (tgt := 83) hx hb (by omega) (by omega) dX3_enter_50 (by decide) (fun c3 => ?_) (fun c3 => ?_)
        · rw [hQ]
          exact e_v F w hr hlocks ⟨hI, hF⟩ dX3_enter_83
        · refine lv_aload_n hx hb dX3_enter_53 rfl (lv_at hl 1 rfl) ?_
          refine f_3_5 F w (a := 109) rfl tb_208 dX3_enter_54 ?_
          refine lv_aload_n hx hb dX3_enter_57 rfl (lv_at hl 1 rfl) ?_
          refine f_3_1 F w (a := 109) rfl tb_207 dX3_enter_58 ?_
          refine r_val (v := zI z1) (ez1) ?_
          refine lv_lload_n hx hb dX3_enter_61 rfl (lv_at hl 2 rfl) ?_
          refine g_last F w (a := 112) rfl (j := (Int.toNat z1)) (ix_z (by omega) (by omega)) (by omega) dX3_enter_62 (fun H locs w => ?_)
          have hIN4 : Inv (sL M 112 (Int.toNat z1) x) := hI
          have hFN4 : Fr (fun b9 k9 => (b9 = 109 ∧ k9 = 1)) (sL M 112 (Int.toNat z1) x) M := hF
          have kn5 : (Prod.fst (sL M 112 (Int.toNat z1) x)) 109 1 = zI z1 := ez1
          generalize (sL M 112 (Int.toNat z1) x) = N4 at w hIN4 hFN4 kn5
          refine lv_aload_n hx hb dX3_enter_63 rfl (lv_at hl 1 rfl) ?_
          refine f_3_6 F w (a := 109) rfl tb_209 dX3_enter_64 ?_
          refine lv_aload_n hx hb dX3_enter_67 rfl (lv_at hl 1 rfl) ?_
          refine f_3_1 F w (a := 109) rfl tb_207 dX3_enter_68 ?_
          refine r_val (v := zI z1) (kn5) ?_
          refine lv_lload_n hx hb dX3_enter_71 rfl (lv_at hl 3 rfl) ?_
          refine g_last F w (a := 113) rfl (j := (Int.toNat z1)) (ix_z (by omega) (by omega)) (by omega) dX3_enter_72 (fun H locs w => ?_)
          have hIN6 : Inv (sL N4 113 (Int.toNat z1) x1) := hIN4
          have hFN6 : Fr (fun b9 k9 => (b9 = 109 ∧ k9 = 1)) (sL N4 113 (Int.toNat z1) x1) M := hFN4
          have kn7 : (Prod.fst (sL N4 113 (Int.toNat z1) x1)) 109 1 = zI z1 := kn5
          generalize (sL N4 113 (Int.toNat z1) x1) = N6 at w hIN6 hFN6 kn7
          refine lv_aload_n hx hb dX3_enter_73 rfl (lv_at hl 1 rfl) ?_
          refine lv_dup hx hb dX3_enter_74 rfl ?_
          refine f_3_1 F w (a := 109) rfl tb_207 dX3_enter_75 ?_
          refine r_val (v := zI z1) (kn7) ?_
          refine lv_iconst (v := zI 1) hx hb dX3_enter_78 rfl ?_
          refine z_iadd (z := (z1 + 1)) hx hb dX3_enter_79 (by omega) ?_
          refine u_3_1 F w (a := 109) rfl tb_207 dX3_enter_80 (fun H locs w => ?_)
          rw [hQ]
          exact e_v F w hr hlocks ⟨(Inv.to hIN6 (a := 109) (k := 1) (x := (z1 + 1)) (show iv 109 1 = (0, 720) from rfl) (by omega)), (Fr.to hFN6 (by first | omega | (dsimp only; first | done | omega)))⟩ dX3_enter_83
      · refine lv_aload_n hx hb dX3_enter_12 rfl (lv_at hl 1 rfl) ?_
        refine f_3_5 F w (a := 109) rfl tb_208 dX3_enter_13 ?_
        refine lv_iload hx hb dX3_enter_16 (lv_at hl 0 rfl) ?_
        refine g_lald F w (a := 112) rfl (j := (Int.toNat v5_3)) (ix_z (by omega) (by omega)) (by omega) dX3_enter_18 ?_
        refine lv_topl (fun u8 eu8 => ?_)
        refine lv_lload_n hx hb dX3_enter_19 rfl (lv_at hl 2 rfl) ?_
        refine W.lcmp hx hb dX3_enter_20 ?_
        refine lv_topi (fun u9 eu9 => ?_)
        obtain ⟨z10, bz10, rfl⟩ := rg_ex u9
        refine z_if_ne (tgt := 37) hx hb (by omega) dX3_enter_21 (by decide) (fun c11 => ?_) (fun c11 => ?_)
        · refine z_iinc (v := (v5_3 + 1)) (lv' := [(5, .int (zI (v5_3 + 1))), (0, .ref (B + 109)), (1, .long x), (3, .long x1)]) hx hb dX3_enter_37 hl (k := 0) rfl (by omega) (by decide) rfl (fun ls hl => ?_)
          refine lv_goto (tgt := 3) hx hb dX3_enter_40 (by decide) ?_
          exact ih3 (v5_3 + 1) (by omega)     (by omega) _ _ _ w (lv_sub hl [0, 1, 2, 3] rfl)
        · refine lv_aload_n hx hb dX3_enter_24 rfl (lv_at hl 1 rfl) ?_
          refine f_3_6 F w (a := 109) rfl tb_209 dX3_enter_25 ?_
          refine lv_iload hx hb dX3_enter_28 (lv_at hl 0 rfl) ?_
          refine g_lald F w (a := 113) rfl (j := (Int.toNat v5_3)) (ix_z (by omega) (by omega)) (by omega) dX3_enter_30 ?_
          refine lv_topl (fun u12 eu12 => ?_)
          refine lv_lload_n hx hb dX3_enter_31 rfl (lv_at hl 3 rfl) ?_
          refine W.lcmp hx hb dX3_enter_32 ?_
          refine lv_topi (fun u13 eu13 => ?_)
          obtain ⟨z14, bz14, rfl⟩ := rg_ex u13
          refine z_if_ne (tgt := 37) hx hb (by omega) dX3_enter_33 (by decide) (fun c15 => ?_) (fun c15 => ?_)
          · refine z_iinc (v := (v5_3 + 1)) (lv' := [(5, .int (zI (v5_3 + 1))), (0, .ref (B + 109)), (1, .long x), (3, .long x1)]) hx hb dX3_enter_37 hl (k := 0) rfl (by omega) (by decide) rfl (fun ls hl => ?_)
            refine lv_goto (tgt := 3) hx hb dX3_enter_40 (by decide) ?_
            exact ih3 (v5_3 + 1) (by omega)     (by omega) _ _ _ w (lv_sub hl [0, 1, 2, 3] rfl)
          · rw [hQ]
            exact e_v F w hr hlocks ⟨hI, hF⟩ dX3_enter_36
  exact lp3 _ 0 (by omega) (Nat.lt_succ_self _) _ _ _ w (lv_sub hl [0, 1, 2, 3] rfl)
theorem dX3_exchange_0 : decode cX3_exchange 0 = .ok (.aload_n 0, 1) := dq0 kk_42 (by decide +kernel)
theorem dX3_exchange_1 : decode cX3_exchange 1 = .ok (.getfield 22, 3) := dqV kk_180 (by decide +kernel)
theorem tb_210 : Cond.fieldLink "ToneLines$Orders" 22 "ToneLines$Orders" "order" "[I" ∈ TB := tbm (tc1 (List.mem_of_getElem? (i := 235) rfl)) rfl
theorem dX3_exchange_4 : decode cX3_exchange 4 = .ok (.iload_n 1, 1) := dq0 kk_27 (by decide +kernel)
theorem dX3_exchange_5 : decode cX3_exchange 5 = .ok (.iaload, 1) := dq0 kk_46 (by decide +kernel)
theorem dX3_exchange_6 : decode cX3_exchange 6 = .ok (.istore_n 3, 1) := dq0 kk_62 (by decide +kernel)
theorem dX3_exchange_7 : decode cX3_exchange 7 = .ok (.aload_n 0, 1) := dq0 kk_42 (by decide +kernel)
theorem dX3_exchange_8 : decode cX3_exchange 8 = .ok (.getfield 22, 3) := dqV kk_180 (by decide +kernel)
theorem dX3_exchange_11 : decode cX3_exchange 11 = .ok (.iload_n 1, 1) := dq0 kk_27 (by decide +kernel)
theorem dX3_exchange_12 : decode cX3_exchange 12 = .ok (.aload_n 0, 1) := dq0 kk_42 (by decide +kernel)
theorem dX3_exchange_13 : decode cX3_exchange 13 = .ok (.getfield 22, 3) := dqV kk_180 (by decide +kernel)
theorem dX3_exchange_16 : decode cX3_exchange 16 = .ok (.iload_n 2, 1) := dq0 kk_28 (by decide +kernel)
theorem dX3_exchange_17 : decode cX3_exchange 17 = .ok (.iaload, 1) := dq0 kk_46 (by decide +kernel)
theorem dX3_exchange_18 : decode cX3_exchange 18 = .ok (.iastore, 1) := dq0 kk_79 (by decide +kernel)
theorem dX3_exchange_19 : decode cX3_exchange 19 = .ok (.aload_n 0, 1) := dq0 kk_42 (by decide +kernel)
theorem dX3_exchange_20 : decode cX3_exchange 20 = .ok (.getfield 22, 3) := dqV kk_180 (by decide +kernel)
theorem dX3_exchange_23 : decode cX3_exchange 23 = .ok (.iload_n 2, 1) := dq0 kk_28 (by decide +kernel)
theorem dX3_exchange_24 : decode cX3_exchange 24 = .ok (.iload_n 3, 1) := dq0 kk_29 (by decide +kernel)
theorem dX3_exchange_25 : decode cX3_exchange 25 = .ok (.iastore, 1) := dq0 kk_79 (by decide +kernel)
theorem dX3_exchange_26 : decode cX3_exchange 26 = .ok (.return_, 1) := dq0 kk_177 (by decide +kernel)
set_option maxRecDepth 4000 in
theorem q_X3_exchange {l : Launch} {D : va_G} {B : Nat} {cy : Nat → ClassId} {M : Mem} {x : Int} (hx : 0 ≤ x ∧ x ≤ 5) {x1 : Int} (hx1 : 0 ≤ x1 ∧ x1 ≤ 5) (hI : Inv M) : Cv l D B cy yX3_exchange cX3_exchange 4 0 0 [.ref (B + 109), .int (zI x), .int (zI x1)] M (fun M1 => Inv M1 ∧ Fr (fun b9 k9 => b9 = 110) M1 M) := by
  refine s_anyQ (by decide) (Nat.le_of_ble_eq_true rfl) ?_
  intro p e s m args below meth c ls Q F hr hlocks hQ w hl
  have F : CallFix p m c cX3_exchange 4 s args TB RX3 := F
  have hx := F.1
  have hb := F.2.1
  have hl : lv_has ls 4 [(0, .ref (B + 109)), (1, .int (zI x)), (2, .int (zI x1))] := hl
  have hF : Fr (fun b9 k9 => b9 = 110) M M := Fr.rf
  refine lv_aload_n hx hb dX3_exchange_0 rfl (lv_at hl 0 rfl) ?_
  refine f_3_3 F w (a := 109) rfl tb_210 dX3_exchange_1 ?_
  refine lv_iload_n hx hb dX3_exchange_4 rfl (lv_at hl 1 rfl) ?_
  refine g_iald F w (a := 110) rfl (j := (Int.toNat x)) (ix_z (by omega) (by omega)) (by omega) dX3_exchange_5 ?_
  obtain ⟨z1, bz1, ez1⟩ := Inv.ld (k := (Int.toNat x)) hI (show iv 110 (Int.toNat x) = (0, 5) from rfl) (show 110 < 146 by decide)
  refine r_val ez1 ?_
  refine lv_istore_n (lv' := [(3, .int (zI z1)), (0, .ref (B + 109)), (1, .int (zI x)), (2, .int (zI x1))]) hx hb dX3_exchange_6 rfl hl (by decide) rfl (fun ls hl => ?_)
  refine lv_aload_n hx hb dX3_exchange_7 rfl (lv_at hl 1 rfl) ?_
  refine f_3_3 F w (a := 109) rfl tb_210 dX3_exchange_8 ?_
  refine lv_iload_n hx hb dX3_exchange_11 rfl (lv_at hl 2 rfl) ?_
  refine lv_aload_n hx hb dX3_exchange_12 rfl (lv_at hl 1 rfl) ?_
  refine f_3_3 F w (a := 109) rfl tb_210 dX3_exchange_13 ?_
  refine lv_iload_n hx hb dX3_exchange_16 rfl (lv_at hl 3 rfl) ?_
  refine g_iald F w (a := 110) rfl (j := (Int.toNat x1)) (ix_z (by omega) (by omega)) (by omega) dX3_exchange_17 ?_
  obtain ⟨z2, bz2, ez2⟩ := Inv.ld (k := (Int.toNat x1)) hI (show iv 110 (Int.toNat x1) = (0, 5) from rfl) (show 110 < 146 by decide)
  refine r_val ez2 ?_
  refine g_iast F w (a := 110) rfl (j := (Int.toNat x)) (ix_z (by omega) (by omega)) (by omega) dX3_exchange_18 (fun H locs w => ?_)
  refine lv_aload_n hx hb dX3_exchange_19 rfl (lv_at hl 1 rfl) ?_
  refine f_3_3 F w (a := 109) rfl tb_210 dX3_exchange_20 ?_
  refine lv_iload_n hx hb dX3_exchange_23 rfl (lv_at hl 3 rfl) ?_
  refine lv_iload_n hx hb dX3_exchange_24 rfl (lv_at hl 0 rfl) ?_
  refine g_iast F w (a := 110) rfl (j := (Int.toNat x1)) (ix_z (by omega) (by omega)) (by omega) dX3_exchange_25 (fun H locs w => ?_)
  rw [hQ]
  exact e_v F w hr hlocks ⟨(Inv.to (Inv.to hI (a := 110) (k := (Int.toNat x)) (x := z2) (show iv 110 (Int.toNat x) = (0, 5) from rfl) (by omega)) (a := 110) (k := (Int.toNat x1)) (x := z1) (show iv 110 (Int.toNat x1) = (0, 5) from rfl) (by omega)), (Fr.to (Fr.to hF (by first | omega | (dsimp only; first | done | omega))) (by first | omega | (dsimp only; first | done | omega)))⟩ dX3_exchange_26
theorem dX3_nextOrder_0 : decode cX3_nextOrder 0 = .ok (.iload_n 1, 1) := dq0 kk_27 (by decide +kernel)
theorem dX3_nextOrder_1 : decode cX3_nextOrder 1 = .ok (.iconst 2, 1) := dq0 kk_5 (by decide +kernel)
theorem dX3_nextOrder_2 : decode cX3_nextOrder 2 = .ok (.isub, 1) := dq0 kk_100 (by decide +kernel)
theorem dX3_nextOrder_3 : decode cX3_nextOrder 3 = .ok (.istore_n 2, 1) := dq0 kk_61 (by decide +kernel)
theorem dX3_nextOrder_4 : decode cX3_nextOrder 4 = .ok (.iload_n 2, 1) := dq0 kk_28 (by decide +kernel)
theorem dX3_nextOrder_5 : decode cX3_nextOrder 5 = .ok (.ifCond .lt 26, 3) := dqT kk_155 (by decide +kernel)
theorem dX3_nextOrder_31 : decode cX3_nextOrder 31 = .ok (.iload_n 2, 1) := dq0 kk_28 (by decide +kernel)
theorem dX3_nextOrder_32 : decode cX3_nextOrder 32 = .ok (.ifCond .ge 5, 3) := dqT kk_156 (by decide +kernel)
theorem dX3_nextOrder_35 : decode cX3_nextOrder 35 = .ok (.iconst (-1), 1) := dq0 kk_2 (by decide +kernel)
theorem dX3_nextOrder_36 : decode cX3_nextOrder 36 = .ok (.ireturn, 1) := dq0 kk_172 (by decide +kernel)
theorem dX3_nextOrder_8 : decode cX3_nextOrder 8 = .ok (.aload_n 0, 1) := dq0 kk_42 (by decide +kernel)
theorem dX3_nextOrder_9 : decode cX3_nextOrder 9 = .ok (.getfield 22, 3) := dqV kk_180 (by decide +kernel)
theorem dX3_nextOrder_12 : decode cX3_nextOrder 12 = .ok (.iload_n 2, 1) := dq0 kk_28 (by decide +kernel)
theorem dX3_nextOrder_13 : decode cX3_nextOrder 13 = .ok (.iaload, 1) := dq0 kk_46 (by decide +kernel)
theorem dX3_nextOrder_14 : decode cX3_nextOrder 14 = .ok (.aload_n 0, 1) := dq0 kk_42 (by decide +kernel)
theorem dX3_nextOrder_15 : decode cX3_nextOrder 15 = .ok (.getfield 22, 3) := dqV kk_180 (by decide +kernel)
theorem dX3_nextOrder_18 : decode cX3_nextOrder 18 = .ok (.iload_n 2, 1) := dq0 kk_28 (by decide +kernel)
theorem dX3_nextOrder_19 : decode cX3_nextOrder 19 = .ok (.iconst 1, 1) := dq0 kk_4 (by decide +kernel)
theorem dX3_nextOrder_20 : decode cX3_nextOrder 20 = .ok (.iadd, 1) := dq0 kk_96 (by decide +kernel)
theorem dX3_nextOrder_21 : decode cX3_nextOrder 21 = .ok (.iaload, 1) := dq0 kk_46 (by decide +kernel)
theorem dX3_nextOrder_22 : decode cX3_nextOrder 22 = .ok (.if_icmp .le 9, 3) := dqT kk_164 (by decide +kernel)
theorem dX3_nextOrder_37 : decode cX3_nextOrder 37 = .ok (.iload_n 1, 1) := dq0 kk_27 (by decide +kernel)
theorem dX3_nextOrder_38 : decode cX3_nextOrder 38 = .ok (.iconst 1, 1) := dq0 kk_4 (by decide +kernel)
theorem dX3_nextOrder_39 : decode cX3_nextOrder 39 = .ok (.isub, 1) := dq0 kk_100 (by decide +kernel)
theorem dX3_nextOrder_40 : decode cX3_nextOrder 40 = .ok (.istore_n 3, 1) := dq0 kk_62 (by decide +kernel)
theorem dX3_nextOrder_41 : decode cX3_nextOrder 41 = .ok (.iload_n 3, 1) := dq0 kk_29 (by decide +kernel)
theorem dX3_nextOrder_42 : decode cX3_nextOrder 42 = .ok (.iload_n 2, 1) := dq0 kk_28 (by decide +kernel)
theorem dX3_nextOrder_43 : decode cX3_nextOrder 43 = .ok (.iconst 1, 1) := dq0 kk_4 (by decide +kernel)
theorem dX3_nextOrder_44 : decode cX3_nextOrder 44 = .ok (.iadd, 1) := dq0 kk_96 (by decide +kernel)
theorem dX3_nextOrder_45 : decode cX3_nextOrder 45 = .ok (.if_icmp .le 24, 3) := dqT kk_164 (by decide +kernel)
theorem dX3_nextOrder_69 : decode cX3_nextOrder 69 = .ok (.aload_n 0, 1) := dq0 kk_42 (by decide +kernel)
theorem dX3_nextOrder_70 : decode cX3_nextOrder 70 = .ok (.iload_n 2, 1) := dq0 kk_28 (by decide +kernel)
theorem dX3_nextOrder_71 : decode cX3_nextOrder 71 = .ok (.iload_n 3, 1) := dq0 kk_29 (by decide +kernel)
theorem dX3_nextOrder_72 : decode cX3_nextOrder 72 = .ok (.invokevirtual 86, 3) := dqV kk_182 (by decide +kernel)
theorem tk_X3_exchange : Cond.code yX3_exchange cX3_exchange 4 none ∈ TB := tbm (tc5 (List.mem_of_getElem? (i := 20) rfl)) rfl
theorem gc_X3_exchange : GoodIn TB (cw yX3_exchange cX3_exchange 4 none) := goodIn_c2 tk_X3_exchange
theorem tb_211 : Cond.methodLink "ToneLines$Orders" 86 yX3_exchange ∈ TB := tbm (tc5 (List.mem_of_getElem? (i := 17) rfl)) rfl
theorem tb_212 : Cond.instanceMethod yX3_exchange ∈ TB := tbm (tc5 (List.mem_of_getElem? (i := 19) rfl)) rfl
theorem tb_213 : Cond.selects "ToneLines$Orders" yX3_exchange yX3_exchange ∈ TB := tbp (List.mem_of_getElem? (i := 35) rfl) rfl
theorem tb_214 : Cond.initialized "ToneLines$Orders" ∈ TB := tbm (tc1 (List.mem_of_getElem? (i := 10) rfl)) rfl
theorem gv_X3_86 : GoodIn TB (wsV RX3 86 RX3 yX3_exchange (cw yX3_exchange cX3_exchange 4 none)) := goodIn_4 tb_211 tb_212 tb_213 tb_214 gc_X3_exchange
theorem hv_X3_exchange : yX3_exchange.cls = RX3 ∧ yX3_exchange.cls ≠ "java/lang/invoke/MethodHandle" ∧ yX3_exchange.cls ≠ "java/lang/invoke/VarHandle" ∧ (parseMethodDescriptor yX3_exchange.desc).map (fun d => d.parameters.length) = some 2 := by decide +kernel
theorem dX3_nextOrder_75 : decode cX3_nextOrder 75 = .ok (.iload_n 2, 1) := dq0 kk_28 (by decide +kernel)
theorem dX3_nextOrder_76 : decode cX3_nextOrder 76 = .ok (.iconst 1, 1) := dq0 kk_4 (by decide +kernel)
theorem dX3_nextOrder_77 : decode cX3_nextOrder 77 = .ok (.iadd, 1) := dq0 kk_96 (by decide +kernel)
theorem dX3_nextOrder_78 : decode cX3_nextOrder 78 = .ok (.istore 4, 2) := dqU kk_54 (by decide +kernel)
theorem dX3_nextOrder_80 : decode cX3_nextOrder 80 = .ok (.iload_n 1, 1) := dq0 kk_27 (by decide +kernel)
theorem dX3_nextOrder_81 : decode cX3_nextOrder 81 = .ok (.iconst 1, 1) := dq0 kk_4 (by decide +kernel)
theorem dX3_nextOrder_82 : decode cX3_nextOrder 82 = .ok (.isub, 1) := dq0 kk_100 (by decide +kernel)
theorem dX3_nextOrder_83 : decode cX3_nextOrder 83 = .ok (.istore 5, 2) := dqU kk_54 (by decide +kernel)
theorem dX3_nextOrder_85 : decode cX3_nextOrder 85 = .ok (.iload 4, 2) := dqU kk_21 (by decide +kernel)
theorem dX3_nextOrder_87 : decode cX3_nextOrder 87 = .ok (.iload 5, 2) := dqU kk_21 (by decide +kernel)
theorem dX3_nextOrder_89 : decode cX3_nextOrder 89 = .ok (.if_icmp .ge 20, 3) := dqT kk_162 (by decide +kernel)
theorem dX3_nextOrder_109 : decode cX3_nextOrder 109 = .ok (.iload_n 2, 1) := dq0 kk_28 (by decide +kernel)
theorem dX3_nextOrder_110 : decode cX3_nextOrder 110 = .ok (.ireturn, 1) := dq0 kk_172 (by decide +kernel)
theorem dX3_nextOrder_92 : decode cX3_nextOrder 92 = .ok (.aload_n 0, 1) := dq0 kk_42 (by decide +kernel)
theorem dX3_nextOrder_93 : decode cX3_nextOrder 93 = .ok (.iload 4, 2) := dqU kk_21 (by decide +kernel)
theorem dX3_nextOrder_95 : decode cX3_nextOrder 95 = .ok (.iload 5, 2) := dqU kk_21 (by decide +kernel)
theorem dX3_nextOrder_97 : decode cX3_nextOrder 97 = .ok (.invokevirtual 86, 3) := dqV kk_182 (by decide +kernel)
theorem dX3_nextOrder_100 : decode cX3_nextOrder 100 = .ok (.iinc 4 1, 3) := dqI kk_132 (by decide +kernel)
theorem dX3_nextOrder_103 : decode cX3_nextOrder 103 = .ok (.iinc 5 (-1), 3) := dqI kk_132 (by decide +kernel)
theorem dX3_nextOrder_106 : decode cX3_nextOrder 106 = .ok (.goto (-21), 3) := dqT kk_167 (by decide +kernel)
theorem dX3_nextOrder_48 : decode cX3_nextOrder 48 = .ok (.aload_n 0, 1) := dq0 kk_42 (by decide +kernel)
theorem dX3_nextOrder_49 : decode cX3_nextOrder 49 = .ok (.getfield 22, 3) := dqV kk_180 (by decide +kernel)
theorem dX3_nextOrder_52 : decode cX3_nextOrder 52 = .ok (.iload_n 3, 1) := dq0 kk_29 (by decide +kernel)
theorem dX3_nextOrder_53 : decode cX3_nextOrder 53 = .ok (.iaload, 1) := dq0 kk_46 (by decide +kernel)
theorem dX3_nextOrder_54 : decode cX3_nextOrder 54 = .ok (.aload_n 0, 1) := dq0 kk_42 (by decide +kernel)
theorem dX3_nextOrder_55 : decode cX3_nextOrder 55 = .ok (.getfield 22, 3) := dqV kk_180 (by decide +kernel)
theorem dX3_nextOrder_58 : decode cX3_nextOrder 58 = .ok (.iload_n 2, 1) := dq0 kk_28 (by decide +kernel)
theorem dX3_nextOrder_59 : decode cX3_nextOrder 59 = .ok (.iaload, 1) := dq0 kk_46 (by decide +kernel)
theorem dX3_nextOrder_60 : decode cX3_nextOrder 60 = .ok (.if_icmp .ge 9, 3) := dqT kk_162 (by decide +kernel)
theorem dX3_nextOrder_63 : decode cX3_nextOrder 63 = .ok (.iinc 3 (-1), 3) := dqI kk_132 (by decide +kernel)
theorem dX3_nextOrder_66 : decode cX3_nextOrder 66 = .ok (.goto (-25), 3) := dqT kk_167 (by decide +kernel)
theorem dX3_nextOrder_25 : decode cX3_nextOrder 25 = .ok (.iinc 2 (-1), 3) := dqI kk_132 (by decide +kernel)
theorem dX3_nextOrder_28 : decode cX3_nextOrder 28 = .ok (.goto (-24), 3) := dqT kk_167 (by decide +kernel)
set_option maxRecDepth 4000 in
theorem q_X3_nextOrder {l : Launch} {D : va_G} {B : Nat} {cy : Nat → ClassId} {M : Mem} {x : Int} (hx : 0 ≤ x ∧ x ≤ 6) (hI : Inv M) : Ci l D B cy yX3_nextOrder cX3_nextOrder 6 (some .int) 1 23 [.ref (B + 109), .int (zI x)] M (fun r M1 => ∃ z : Int, r = zI z ∧ ((-1) ≤ z ∧ z ≤ 4) ∧ Inv M1 ∧ Fr (fun b9 k9 => b9 = 110) M1 M) := by
  refine s_anyQ (by decide) (Nat.le_of_ble_eq_true rfl) ?_
  intro p e s m args below meth c ls Q F hr hlocks hQ w hl
  have F : CallFix p m c cX3_nextOrder 6 s args TB RX3 := F
  have hx := F.1
  have hb := F.2.1
  have hl : lv_has ls 6 [(0, .ref (B + 109)), (1, .int (zI x))] := hl
  have hF : Fr (fun b9 k9 => b9 = 110) M M := Fr.rf
  refine lv_iload_n hx hb dX3_nextOrder_0 rfl (lv_at hl 1 rfl) ?_
  refine lv_iconst (v := zI 2) hx hb dX3_nextOrder_1 rfl ?_
  refine z_isub (z := (x - 2)) hx hb dX3_nextOrder_2 (by omega) ?_
  refine lv_istore_n (lv' := [(2, .int (zI (x - 2))), (0, .ref (B + 109)), (1, .int (zI x))]) hx hb dX3_nextOrder_3 rfl hl (by decide) rfl (fun ls hl => ?_)
  have lp4 : ∀ (f : Nat) (v2_4 : Int), ((-2) ≤ v2_4 ∧ v2_4 ≤ 4) → (v2_4 ≤ x - 2) → (Int.toNat (v2_4 - (-1)) < f) → ∀ (H : Heap) (locs : List Loc) (ls : Array Slot), Wd D B cy s s.heap M H locs → lv_has ls 6 [(2, .int (zI v2_4)), (0, .ref (B + 109)), (1, .int (zI x))] → W p l e (rmm 1 23) s m args below meth c H locs 0 0 Q (F0 m 4 ls []) := by
    intro f
    induction f with
    | zero => intros; omega
    | succ f ih4 =>
      intro v2_4  iv2_4 y4_0 hf4 H locs ls w hl
      refine lv_iload_n hx hb dX3_nextOrder_4 rfl (lv_at hl 0 rfl) ?_
      refine z_if_lt (tgt := 31) hx hb (by omega) dX3_nextOrder_5 (by decide) (fun c1 => ?_) (fun c1 => ?_)
      · refine lv_iload_n hx hb dX3_nextOrder_31 rfl (lv_at hl 0 rfl) ?_
        refine z_if_ge (tgt := 37) hx hb (by omega) dX3_nextOrder_32 (by decide) (fun c2 => False.elim (by omega)) (fun c2 => ?_)
        refine lv_iconst (v := zI (-1)) hx hb dX3_nextOrder_35 rfl ?_
        rw [hQ]
        exact e_i F w hr hlocks ⟨_, rfl, (by omega), hI, hF⟩ dX3_nextOrder_36
      · refine lv_aload_n hx hb dX3_nextOrder_8 rfl (lv_at hl 1 rfl) ?_
        refine f_3_3 F w (a := 109) rfl tb_210 dX3_nextOrder_9 ?_
        refine lv_iload_n hx hb dX3_nextOrder_12 rfl (lv_at hl 0 rfl) ?_
        refine g_iald F w (a := 110) rfl (j := (Int.toNat v2_4)) (ix_z (by omega) (by omega)) (by omega) dX3_nextOrder_13 ?_
        obtain ⟨z3, bz3, ez3⟩ := Inv.ld (k := (Int.toNat v2_4)) hI (show iv 110 (Int.toNat v2_4) = (0, 5) from rfl) (show 110 < 146 by decide)
        refine r_val ez3 ?_
        refine lv_aload_n hx hb dX3_nextOrder_14 rfl (lv_at hl 1 rfl) ?_
        refine f_3_3 F w (a := 109) rfl tb_210 dX3_nextOrder_15 ?_
        refine lv_iload_n hx hb dX3_nextOrder_18 rfl (lv_at hl 0 rfl) ?_
        refine lv_iconst (v := zI 1) hx hb dX3_nextOrder_19 rfl ?_
        refine z_iadd (z := (v2_4 + 1)) hx hb dX3_nextOrder_20 (by omega) ?_
        refine g_iald F w (a := 110) rfl (j := (Int.toNat (v2_4 + 1))) (ix_z (by omega) (by omega)) (by omega) dX3_nextOrder_21 ?_
        obtain ⟨z4, bz4, ez4⟩ := Inv.ld (k := (Int.toNat (v2_4 + 1))) hI (show iv 110 (Int.toNat (v2_4 + 1)) = (0, 5) from rfl) (show 110 < 146 by decide)
        refine r_val ez4 ?_
        refine z_icmp_le (tgt := 31) hx hb (by omega) (by omega) dX3_nextOrder_22 (by decide) (fun c5 => ?_) (fun c5 => ?_)
        · refine lv_iload_n hx hb dX3_nextOrder_31 rfl (lv_at hl 0 rfl) ?_
          refine z_if_ge (tgt := 37) hx hb (by omega) dX3_nextOrder_32 (by decide) (fun c6 => ?_) (fun c6 => False.elim (by omega))
          refine lv_iload_n hx hb dX3_nextOrder_37 rfl (lv_at hl 2 rfl) ?_
          refine lv_iconst (v := zI 1) hx hb dX3_nextOrder_38 rfl ?_
          refine z_isub (z := (x - 1)) hx hb dX3_nextOrder_39 (by omega) ?_
          refine lv_istore_n (lv' := [(3, .int (zI (x - 1))), (2, .int (zI v2_4)), (0, .ref (B + 109)), (1, .int (zI x))]) hx hb dX3_nextOrder_40 rfl hl (by decide) rfl (fun ls hl => ?_)
          have lp41 : ∀ (f : Nat) (v3_41 : Int), ((-1) ≤ v3_41 ∧ v3_41 ≤ 5) → (1 ≤ v3_41) → (Int.toNat (v3_41 - 1) < f) → ∀ (H : Heap) (locs : List Loc) (ls : Array Slot), Wd D B cy s s.heap M H locs → lv_has ls 6 [(3, .int (zI v3_41)), (2, .int (zI v2_4)), (0, .ref (B + 109)), (1, .int (zI x))] → W p l e (rmm 1 23) s m args below meth c H locs 0 0 Q (F0 m 41 ls []) := by
            intro f
            induction f with
            | zero => intros; omega
            | succ f ih41 =>
              intro v3_41  iv3_41 y41_0 hf41 H locs ls w hl
              refine lv_iload_n hx hb dX3_nextOrder_41 rfl (lv_at hl 0 rfl) ?_
              refine lv_iload_n hx hb dX3_nextOrder_42 rfl (lv_at hl 1 rfl) ?_
              refine lv_iconst (v := zI 1) hx hb dX3_nextOrder_43 rfl ?_
              refine z_iadd (z := (v2_4 + 1)) hx hb dX3_nextOrder_44 (by omega) ?_
              refine z_icmp_le (tgt := 69) hx hb (by omega) (by omega) dX3_nextOrder_45 (by decide) (fun c7 => ?_) (fun c7 => ?_)
              · refine lv_aload_n hx hb dX3_nextOrder_69 rfl (lv_at hl 2 rfl) ?_
                refine lv_iload_n hx hb dX3_nextOrder_70 rfl (lv_at hl 1 rfl) ?_
                refine lv_iload_n hx hb dX3_nextOrder_71 rfl (lv_at hl 0 rfl) ?_
                refine k_Vv F w (As := [.int (zI v2_4), .int (zI v3_41)]) (rest := []) (a := 109) (kd_lt (a := 109) (show kd 109 = (3, 0, 0) from rfl) (by decide)) (sh_3 rfl _ _) rfl (q_X3_exchange (x := v2_4) (by omega) (x1 := v3_41) (by omega)  hI) gv_X3_86 hv_X3_exchange ⟨(Nat.le_of_ble_eq_true rfl), (Nat.le_of_ble_eq_true rfl)⟩ hl.1 rfl (Nat.le_of_ble_eq_true rfl) ⟨Nat.zero_le _, Nat.zero_le _⟩ dX3_nextOrder_72 (fun N9 H locs hp w => ?_)
                obtain ⟨hIN9, hFN9⟩ := hp
                have hGN9 := Fr.tr hF hFN9 (S := (fun b9 k9 => b9 = 110)) (fun b k h => by first | omega | (dsimp only at h ⊢; omega))
                refine lv_iload_n hx hb dX3_nextOrder_75 rfl (lv_at hl 1 rfl) ?_
                refine lv_iconst (v := zI 1) hx hb dX3_nextOrder_76 rfl ?_
                refine z_iadd (z := (v2_4 + 1)) hx hb dX3_nextOrder_77 (by omega) ?_
                refine lv_istore (lv' := [(4, .int (zI (v2_4 + 1))), (3, .int (zI v3_41)), (2, .int (zI v2_4)), (0, .ref (B + 109)), (1, .int (zI x))]) hx hb dX3_nextOrder_78 hl (by decide) rfl (fun ls hl => ?_)
                refine lv_iload_n hx hb dX3_nextOrder_80 rfl (lv_at hl 4 rfl) ?_
                refine lv_iconst (v := zI 1) hx hb dX3_nextOrder_81 rfl ?_
                refine z_isub (z := (x - 1)) hx hb dX3_nextOrder_82 (by omega) ?_
                refine lv_istore (lv' := [(5, .int (zI (x - 1))), (4, .int (zI (v2_4 + 1))), (3, .int (zI v3_41)), (2, .int (zI v2_4)), (0, .ref (B + 109)), (1, .int (zI x))]) hx hb dX3_nextOrder_83 hl (by decide) rfl (fun ls hl => ?_)
                have lp85 : ∀ (f : Nat) (v5_85 : Int) (v4_85 : Int)  (NL85 : Mem), ((-1) ≤ v5_85 ∧ v5_85 ≤ 5) → (1 ≤ v4_85 ∧ v4_85 ≤ 5) → Inv NL85 → Fr (fun b9 k9 => b9 = 110) NL85 M → (Int.toNat (v5_85 - 1) < f) → ∀ (H : Heap) (locs : List Loc) (ls : Array Slot), Wd D B cy s s.heap NL85 H locs → lv_has ls 6 [(5, .int (zI v5_85)), (4, .int (zI v4_85)), (3, .int (zI v3_41)), (2, .int (zI v2_4)), (0, .ref (B + 109)), (1, .int (zI x))] → W p l e (rmm 1 23) s m args below meth c H locs 0 0 Q (F0 m 85 ls []) := by
                  intro f
                  induction f with
                  | zero => intros; omega
                  | succ f ih85 =>
                    intro v5_85 v4_85  NL85 iv5_85 iv4_85 hIL85 hFL85 hf85 H locs ls w hl
                    refine lv_iload hx hb dX3_nextOrder_85 (lv_at hl 1 rfl) ?_
                    refine lv_iload hx hb dX3_nextOrder_87 (lv_at hl 0 rfl) ?_
                    refine z_icmp_ge (tgt := 109) hx hb (by omega) (by omega) dX3_nextOrder_89 (by decide) (fun c11 => ?_) (fun c11 => ?_)
                    · refine lv_iload_n hx hb dX3_nextOrder_109 rfl (lv_at hl 3 rfl) ?_
                      rw [hQ]
                      exact e_i F w hr hlocks ⟨_, rfl, (by omega), hIL85, hFL85⟩ dX3_nextOrder_110
                    · refine lv_aload_n hx hb dX3_nextOrder_92 rfl (lv_at hl 4 rfl) ?_
                      refine lv_iload hx hb dX3_nextOrder_93 (lv_at hl 1 rfl) ?_
                      refine lv_iload hx hb dX3_nextOrder_95 (lv_at hl 0 rfl) ?_
                      refine k_Vv F w (As := [.int (zI v4_85), .int (zI v5_85)]) (rest := []) (a := 109) (kd_lt (a := 109) (show kd 109 = (3, 0, 0) from rfl) (by decide)) (sh_3 rfl _ _) rfl (q_X3_exchange (x := v4_85) (by omega) (x1 := v5_85) (by omega)  hIL85) gv_X3_86 hv_X3_exchange ⟨(Nat.le_of_ble_eq_true rfl), (Nat.le_of_ble_eq_true rfl)⟩ hl.1 rfl (Nat.le_of_ble_eq_true rfl) ⟨Nat.zero_le _, Nat.zero_le _⟩ dX3_nextOrder_97 (fun N13 H locs hp w => ?_)
                      obtain ⟨hIN13, hFN13⟩ := hp
                      have hGN13 := Fr.tr hFL85 hFN13 (S := (fun b9 k9 => b9 = 110)) (fun b k h => by first | omega | (dsimp only at h ⊢; omega))
                      refine z_iinc (v := (v4_85 + 1)) (lv' := [(4, .int (zI (v4_85 + 1))), (5, .int (zI v5_85)), (3, .int (zI v3_41)), (2, .int (zI v2_4)), (0, .ref (B + 109)), (1, .int (zI x))]) hx hb dX3_nextOrder_100 hl (k := 1) rfl (by omega) (by decide) rfl (fun ls hl => ?_)
                      refine z_iinc (v := (v5_85 - 1)) (lv' := [(5, .int (zI (v5_85 - 1))), (4, .int (zI (v4_85 + 1))), (3, .int (zI v3_41)), (2, .int (zI v2_4)), (0, .ref (B + 109)), (1, .int (zI x))]) hx hb dX3_nextOrder_103 hl (k := 1) rfl (by omega) (by decide) rfl (fun ls hl => ?_)
                      refine lv_goto (tgt := 85) hx hb dX3_nextOrder_106 (by decide) ?_
                      exact ih85 (v5_85 - 1) (v4_85 + 1) N13 (by omega) (by omega)    hIN13 hGN13 (by omega) _ _ _ w (lv_sub hl [0, 1, 2, 3, 4, 5] rfl)
                exact lp85 _ (x - 1) (v2_4 + 1) N9 (by omega) (by omega) hIN9 hGN9 (Nat.lt_succ_self _) _ _ _ w (lv_sub hl [0, 1, 2, 3, 4, 5] rfl)
              · refine lv_aload_n hx hb dX3_nextOrder_48 rfl (lv_at hl 2 rfl) ?_
                refine f_3_3 F w (a := 109) rfl tb_210 dX3_nextOrder_49 ?_
                refine lv_iload_n hx hb dX3_nextOrder_52 rfl (lv_at hl 0 rfl) ?_
                refine g_iald F w (a := 110) rfl (j := (Int.toNat v3_41)) (ix_z (by omega) (by omega)) (by omega) dX3_nextOrder_53 ?_
                obtain ⟨z15, bz15, ez15⟩ := Inv.ld (k := (Int.toNat v3_41)) hI (show iv 110 (Int.toNat v3_41) = (0, 5) from rfl) (show 110 < 146 by decide)
                refine r_val ez15 ?_
                refine lv_aload_n hx hb dX3_nextOrder_54 rfl (lv_at hl 2 rfl) ?_
                refine f_3_3 F w (a := 109) rfl tb_210 dX3_nextOrder_55 ?_
                refine lv_iload_n hx hb dX3_nextOrder_58 rfl (lv_at hl 1 rfl) ?_
                refine g_iald F w (a := 110) rfl (j := (Int.toNat v2_4)) (ix_z (by omega) (by omega)) (by omega) dX3_nextOrder_59 ?_
                refine r_val (v := zI z3) (ez3) ?_
                refine z_icmp_ge (tgt := 69) hx hb (by omega) (by omega) dX3_nextOrder_60 (by decide) (fun c16 => ?_) (fun c16 => ?_)
                · refine lv_aload_n hx hb dX3_nextOrder_69 rfl (lv_at hl 2 rfl) ?_
                  refine lv_iload_n hx hb dX3_nextOrder_70 rfl (lv_at hl 1 rfl) ?_
                  refine lv_iload_n hx hb dX3_nextOrder_71 rfl (lv_at hl 0 rfl) ?_
                  refine k_Vv F w (As := [.int (zI v2_4), .int (zI v3_41)]) (rest := []) (a := 109) (kd_lt (a := 109) (show kd 109 = (3, 0, 0) from rfl) (by decide)) (sh_3 rfl _ _) rfl (q_X3_exchange (x := v2_4) (by omega) (x1 := v3_41) (by omega)  hI) gv_X3_86 hv_X3_exchange ⟨(Nat.le_of_ble_eq_true rfl), (Nat.le_of_ble_eq_true rfl)⟩ hl.1 rfl (Nat.le_of_ble_eq_true rfl) ⟨Nat.zero_le _, Nat.zero_le _⟩ dX3_nextOrder_72 (fun N18 H locs hp w => ?_)
                  obtain ⟨hIN18, hFN18⟩ := hp
                  have hGN18 := Fr.tr hF hFN18 (S := (fun b9 k9 => b9 = 110)) (fun b k h => by first | omega | (dsimp only at h ⊢; omega))
                  refine lv_iload_n hx hb dX3_nextOrder_75 rfl (lv_at hl 1 rfl) ?_
                  refine lv_iconst (v := zI 1) hx hb dX3_nextOrder_76 rfl ?_
                  refine z_iadd (z := (v2_4 + 1)) hx hb dX3_nextOrder_77 (by omega) ?_
                  refine lv_istore (lv' := [(4, .int (zI (v2_4 + 1))), (3, .int (zI v3_41)), (2, .int (zI v2_4)), (0, .ref (B + 109)), (1, .int (zI x))]) hx hb dX3_nextOrder_78 hl (by decide) rfl (fun ls hl => ?_)
                  refine lv_iload_n hx hb dX3_nextOrder_80 rfl (lv_at hl 4 rfl) ?_
                  refine lv_iconst (v := zI 1) hx hb dX3_nextOrder_81 rfl ?_
                  refine z_isub (z := (x - 1)) hx hb dX3_nextOrder_82 (by omega) ?_
                  refine lv_istore (lv' := [(5, .int (zI (x - 1))), (4, .int (zI (v2_4 + 1))), (3, .int (zI v3_41)), (2, .int (zI v2_4)), (0, .ref (B + 109)), (1, .int (zI x))]) hx hb dX3_nextOrder_83 hl (by decide) rfl (fun ls hl => ?_)
                  have lp85 : ∀ (f : Nat) (v5_85 : Int) (v4_85 : Int)  (NL85 : Mem), ((-1) ≤ v5_85 ∧ v5_85 ≤ 5) → (1 ≤ v4_85 ∧ v4_85 ≤ 5) → Inv NL85 → Fr (fun b9 k9 => b9 = 110) NL85 M → (Int.toNat (v5_85 - 1) < f) → ∀ (H : Heap) (locs : List Loc) (ls : Array Slot), Wd D B cy s s.heap NL85 H locs → lv_has ls 6 [(5, .int (zI v5_85)), (4, .int (zI v4_85)), (3, .int (zI v3_41)), (2, .int (zI v2_4)), (0, .ref (B + 109)), (1, .int (zI x))] → W p l e (rmm 1 23) s m args below meth c H locs 0 0 Q (F0 m 85 ls []) := by
                    intro f
                    induction f with
                    | zero => intros; omega
                    | succ f ih85 =>
                      intro v5_85 v4_85  NL85 iv5_85 iv4_85 hIL85 hFL85 hf85 H locs ls w hl
                      refine lv_iload hx hb dX3_nextOrder_85 (lv_at hl 1 rfl) ?_
                      refine lv_iload hx hb dX3_nextOrder_87 (lv_at hl 0 rfl) ?_
                      refine z_icmp_ge (tgt := 109) hx hb (by omega) (by omega) dX3_nextOrder_89 (by decide) (fun c20 => ?_) (fun c20 => ?_)
                      · refine lv_iload_n hx hb dX3_nextOrder_109 rfl (lv_at hl 3 rfl) ?_
                        rw [hQ]
                        exact e_i F w hr hlocks ⟨_, rfl, (by omega), hIL85, hFL85⟩ dX3_nextOrder_110
                      · refine lv_aload_n hx hb dX3_nextOrder_92 rfl (lv_at hl 4 rfl) ?_
                        refine lv_iload hx hb dX3_nextOrder_93 (lv_at hl 1 rfl) ?_
                        refine lv_iload hx hb dX3_nextOrder_95 (lv_at hl 0 rfl) ?_
                        refine k_Vv F w (As := [.int (zI v4_85), .int (zI v5_85)]) (rest := []) (a := 109) (kd_lt (a := 109) (show kd 109 = (3, 0, 0) from rfl) (by decide)) (sh_3 rfl _ _) rfl (q_X3_exchange (x := v4_85) (by omega) (x1 := v5_85) (by omega)  hIL85) gv_X3_86 hv_X3_exchange ⟨(Nat.le_of_ble_eq_true rfl), (Nat.le_of_ble_eq_true rfl)⟩ hl.1 rfl (Nat.le_of_ble_eq_true rfl) ⟨Nat.zero_le _, Nat.zero_le _⟩ dX3_nextOrder_97 (fun N22 H locs hp w => ?_)
                        obtain ⟨hIN22, hFN22⟩ := hp
                        have hGN22 := Fr.tr hFL85 hFN22 (S := (fun b9 k9 => b9 = 110)) (fun b k h => by first | omega | (dsimp only at h ⊢; omega))
                        refine z_iinc (v := (v4_85 + 1)) (lv' := [(4, .int (zI (v4_85 + 1))), (5, .int (zI v5_85)), (3, .int (zI v3_41)), (2, .int (zI v2_4)), (0, .ref (B + 109)), (1, .int (zI x))]) hx hb dX3_nextOrder_100 hl (k := 1) rfl (by omega) (by decide) rfl (fun ls hl => ?_)
                        refine z_iinc (v := (v5_85 - 1)) (lv' := [(5, .int (zI (v5_85 - 1))), (4, .int (zI (v4_85 + 1))), (3, .int (zI v3_41)), (2, .int (zI v2_4)), (0, .ref (B + 109)), (1, .int (zI x))]) hx hb dX3_nextOrder_103 hl (k := 1) rfl (by omega) (by decide) rfl (fun ls hl => ?_)
                        refine lv_goto (tgt := 85) hx hb dX3_nextOrder_106 (by decide) ?_
                        exact ih85 (v5_85 - 1) (v4_85 + 1) N22 (by omega) (by omega)    hIN22 hGN22 (by omega) _ _ _ w (lv_sub hl [0, 1, 2, 3, 4, 5] rfl)
                  exact lp85 _ (x - 1) (v2_4 + 1) N18 (by omega) (by omega) hIN18 hGN18 (Nat.lt_succ_self _) _ _ _ w (lv_sub hl [0, 1, 2, 3, 4, 5] rfl)
                · refine z_iinc (v := (v3_41 - 1)) (lv' := [(3, .int (zI (v3_41 - 1))), (2, .int (zI v2_4)), (0, .ref (B + 109)), (1, .int (zI x))]) hx hb dX3_nextOrder_63 hl (k := 0) rfl (by omega) (by decide) rfl (fun ls hl => ?_)
                  refine lv_goto (tgt := 41) hx hb dX3_nextOrder_66 (by decide) ?_
                  exact ih41 (v3_41 - 1) (by omega)   (by omega)  (by omega) _ _ _ w (lv_sub hl [0, 1, 2, 3] rfl)
          exact lp41 _ (x - 1) (by omega) (by omega) (Nat.lt_succ_self _) _ _ _ w (lv_sub hl [0, 1, 2, 3] rfl)
        · refine z_iinc (v := (v2_4 - 1)) (lv' := [(2, .int (zI (v2_4 - 1))), (0, .ref (B + 109)), (1, .int (zI x))]) hx hb dX3_nextOrder_25 hl (k := 0) rfl (by omega) (by decide) rfl (fun ls hl => ?_)
          refine lv_goto (tgt := 4) hx hb dX3_nextOrder_28 (by decide) ?_
          exact ih4 (v2_4 - 1) (by omega)   (by omega)  (by omega) _ _ _ w (lv_sub hl [0, 1, 2] rfl)
  exact lp4 _ (x - 2) (by omega) (by omega) (Nat.lt_succ_self _) _ _ _ w (lv_sub hl [0, 1, 2] rfl)
theorem dX3_reckon_0 : decode cX3_reckon 0 = .ok (.aload_n 1, 1) := dq0 kk_43 (by decide +kernel)
theorem dX3_reckon_1 : decode cX3_reckon 1 = .ok (.getfield 40, 3) := dqV kk_180 (by decide +kernel)
theorem tb_215 : Cond.fieldLink "ToneLines$Orders" 40 "ToneLines$Derivation" "size" "I" ∈ TB := tbm (tc1 (List.mem_of_getElem? (i := 171) rfl)) rfl
theorem dX3_reckon_4 : decode cX3_reckon 4 = .ok (.bipush 6, 2) := dqS kk_16 (by decide +kernel)
theorem dX3_reckon_6 : decode cX3_reckon 6 = .ok (.invokestatic 45, 3) := dqV kk_184 (by decide +kernel)
theorem tb_216 : Cond.methodLink "ToneLines$Orders" 45 yJ9_min_7cf53 ∈ TB := tbm (tc5 (List.mem_of_getElem? (i := 4) rfl)) rfl
theorem dX3_reckon_9 : decode cX3_reckon 9 = .ok (.istore_n 3, 1) := dq0 kk_62 (by decide +kernel)
theorem dX3_reckon_10 : decode cX3_reckon 10 = .ok (.aload_n 2, 1) := dq0 kk_44 (by decide +kernel)
theorem dX3_reckon_11 : decode cX3_reckon 11 = .ok (.invokevirtual 51, 3) := dqV kk_182 (by decide +kernel)
theorem tb_217 : Cond.methodLink "ToneLines$Orders" 51 yX9_kindsRead ∈ TB := tbm (tc5 (List.mem_of_getElem? (i := 5) rfl)) rfl
theorem gv_X3_51 : GoodIn TB (wsV RX3 51 RX9 yX9_kindsRead (cw yX9_kindsRead cX9_kindsRead 5 (some .long))) := goodIn_4 tb_217 tb_106 tb_107 tb_5 gc_X9_kindsRead
theorem dX3_reckon_14 : decode cX3_reckon 14 = .ok (.lstore 4, 2) := dqU kk_55 (by decide +kernel)
theorem dX3_reckon_16 : decode cX3_reckon 16 = .ok (.aload_n 2, 1) := dq0 kk_44 (by decide +kernel)
theorem dX3_reckon_17 : decode cX3_reckon 17 = .ok (.invokevirtual 54, 3) := dqV kk_182 (by decide +kernel)
theorem tb_218 : Cond.methodLink "ToneLines$Orders" 54 yX9_linesRead ∈ TB := tbm (tc5 (List.mem_of_getElem? (i := 6) rfl)) rfl
theorem gv_X3_54 : GoodIn TB (wsV RX3 54 RX9 yX9_linesRead (cw yX9_linesRead cX9_linesRead 5 (some .long))) := goodIn_4 tb_218 tb_109 tb_110 tb_5 gc_X9_linesRead
theorem dX3_reckon_20 : decode cX3_reckon 20 = .ok (.lstore 6, 2) := dqU kk_55 (by decide +kernel)
theorem dX3_reckon_22 : decode cX3_reckon 22 = .ok (.aload_n 0, 1) := dq0 kk_42 (by decide +kernel)
theorem dX3_reckon_23 : decode cX3_reckon 23 = .ok (.getfield 28, 3) := dqV kk_180 (by decide +kernel)
theorem tb_219 : Cond.fieldLink "ToneLines$Orders" 28 "ToneLines$Orders" "levels" "[LToneLines$Word;" ∈ TB := tbm (tc1 (List.mem_of_getElem? (i := 236) rfl)) rfl
theorem dX3_reckon_26 : decode cX3_reckon 26 = .ok (.iload_n 3, 1) := dq0 kk_29 (by decide +kernel)
theorem dX3_reckon_27 : decode cX3_reckon 27 = .ok (.aaload, 1) := dq0 kk_50 (by decide +kernel)
theorem dX3_reckon_28 : decode cX3_reckon 28 = .ok (.astore 8, 2) := dqU kk_58 (by decide +kernel)
theorem dX3_reckon_30 : decode cX3_reckon 30 = .ok (.iconst 0, 1) := dq0 kk_3 (by decide +kernel)
theorem dX3_reckon_31 : decode cX3_reckon 31 = .ok (.istore 9, 2) := dqU kk_54 (by decide +kernel)
theorem dX3_reckon_33 : decode cX3_reckon 33 = .ok (.iload 9, 2) := dqU kk_21 (by decide +kernel)
theorem dX3_reckon_35 : decode cX3_reckon 35 = .ok (.iload_n 3, 1) := dq0 kk_29 (by decide +kernel)
theorem dX3_reckon_36 : decode cX3_reckon 36 = .ok (.if_icmp .ge 18, 3) := dqT kk_162 (by decide +kernel)
theorem dX3_reckon_54 : decode cX3_reckon 54 = .ok (.aload_n 0, 1) := dq0 kk_42 (by decide +kernel)
theorem dX3_reckon_55 : decode cX3_reckon 55 = .ok (.getfield 28, 3) := dqV kk_180 (by decide +kernel)
theorem dX3_reckon_58 : decode cX3_reckon 58 = .ok (.iconst 0, 1) := dq0 kk_3 (by decide +kernel)
theorem dX3_reckon_59 : decode cX3_reckon 59 = .ok (.aaload, 1) := dq0 kk_50 (by decide +kernel)
theorem dX3_reckon_60 : decode cX3_reckon 60 = .ok (.aload_n 1, 1) := dq0 kk_43 (by decide +kernel)
theorem dX3_reckon_61 : decode cX3_reckon 61 = .ok (.getfield 56, 3) := dqV kk_180 (by decide +kernel)
theorem tb_220 : Cond.fieldLink "ToneLines$Orders" 56 "ToneLines$Derivation" "told" "LToneLines$Word;" ∈ TB := tbm (tc1 (List.mem_of_getElem? (i := 177) rfl)) rfl
theorem dX3_reckon_64 : decode cX3_reckon 64 = .ok (.invokevirtual 60, 3) := dqV kk_182 (by decide +kernel)
theorem tb_221 : Cond.methodLink "ToneLines$Orders" 60 yX9_copyFrom ∈ TB := tbm (tc5 (List.mem_of_getElem? (i := 7) rfl)) rfl
theorem gv_X3_60 : GoodIn TB (wsV RX3 60 RX9 yX9_copyFrom (cw yX9_copyFrom cX9_copyFrom 2 none)) := goodIn_4 tb_221 tb_191 tb_192 tb_5 gc_X9_copyFrom
theorem dX3_reckon_67 : decode cX3_reckon 67 = .ok (.aload_n 0, 1) := dq0 kk_42 (by decide +kernel)
theorem dX3_reckon_68 : decode cX3_reckon 68 = .ok (.iconst 0, 1) := dq0 kk_3 (by decide +kernel)
theorem dX3_reckon_69 : decode cX3_reckon 69 = .ok (.putfield 15, 3) := dqV kk_181 (by decide +kernel)
theorem dX3_reckon_72 : decode cX3_reckon 72 = .ok (.aload_n 0, 1) := dq0 kk_42 (by decide +kernel)
theorem dX3_reckon_73 : decode cX3_reckon 73 = .ok (.iconst 0, 1) := dq0 kk_3 (by decide +kernel)
theorem dX3_reckon_74 : decode cX3_reckon 74 = .ok (.putfield 19, 3) := dqV kk_181 (by decide +kernel)
theorem tb_222 : Cond.fieldLink "ToneLines$Orders" 19 "ToneLines$Orders" "same" "I" ∈ TB := tbm (tc1 (List.mem_of_getElem? (i := 233) rfl)) rfl
theorem dX3_reckon_77 : decode cX3_reckon 77 = .ok (.iconst 0, 1) := dq0 kk_3 (by decide +kernel)
theorem dX3_reckon_78 : decode cX3_reckon 78 = .ok (.istore 9, 2) := dqU kk_54 (by decide +kernel)
theorem dX3_reckon_80 : decode cX3_reckon 80 = .ok (.iconst 0, 1) := dq0 kk_3 (by decide +kernel)
theorem dX3_reckon_81 : decode cX3_reckon 81 = .ok (.istore 10, 2) := dqU kk_54 (by decide +kernel)
theorem dX3_reckon_83 : decode cX3_reckon 83 = .ok (.iload 10, 2) := dqU kk_21 (by decide +kernel)
theorem dX3_reckon_85 : decode cX3_reckon 85 = .ok (.sipush 720, 3) := dqT kk_17 (by decide +kernel)
theorem dX3_reckon_88 : decode cX3_reckon 88 = .ok (.if_icmp .ge 138, 3) := dqT kk_162 (by decide +kernel)
theorem dX3_reckon_91 : decode cX3_reckon 91 = .ok (.iload 9, 2) := dqU kk_21 (by decide +kernel)
theorem dX3_reckon_93 : decode cX3_reckon 93 = .ok (.iconst (-1), 1) := dq0 kk_2 (by decide +kernel)
theorem dX3_reckon_94 : decode cX3_reckon 94 = .ok (.if_icmp .eq 132, 3) := dqT kk_159 (by decide +kernel)
theorem dX3_reckon_97 : decode cX3_reckon 97 = .ok (.iload 9, 2) := dqU kk_21 (by decide +kernel)
theorem dX3_reckon_99 : decode cX3_reckon 99 = .ok (.istore 11, 2) := dqU kk_54 (by decide +kernel)
theorem dX3_reckon_101 : decode cX3_reckon 101 = .ok (.iload 11, 2) := dqU kk_21 (by decide +kernel)
theorem dX3_reckon_103 : decode cX3_reckon 103 = .ok (.iload_n 3, 1) := dq0 kk_29 (by decide +kernel)
theorem dX3_reckon_104 : decode cX3_reckon 104 = .ok (.if_icmp .ge 57, 3) := dqT kk_162 (by decide +kernel)
theorem dX3_reckon_161 : decode cX3_reckon 161 = .ok (.aload 8, 2) := dqU kk_25 (by decide +kernel)
theorem dX3_reckon_163 : decode cX3_reckon 163 = .ok (.invokevirtual 51, 3) := dqV kk_182 (by decide +kernel)
theorem dX3_reckon_166 : decode cX3_reckon 166 = .ok (.lstore 11, 2) := dqU kk_55 (by decide +kernel)
theorem dX3_reckon_168 : decode cX3_reckon 168 = .ok (.aload 8, 2) := dqU kk_25 (by decide +kernel)
theorem dX3_reckon_170 : decode cX3_reckon 170 = .ok (.invokevirtual 54, 3) := dqV kk_182 (by decide +kernel)
theorem dX3_reckon_173 : decode cX3_reckon 173 = .ok (.lstore 13, 2) := dqU kk_55 (by decide +kernel)
theorem dX3_reckon_175 : decode cX3_reckon 175 = .ok (.aload_n 0, 1) := dq0 kk_42 (by decide +kernel)
theorem dX3_reckon_176 : decode cX3_reckon 176 = .ok (.lload 11, 2) := dqU kk_22 (by decide +kernel)
theorem dX3_reckon_178 : decode cX3_reckon 178 = .ok (.lload 13, 2) := dqU kk_22 (by decide +kernel)
theorem dX3_reckon_180 : decode cX3_reckon 180 = .ok (.invokevirtual 78, 3) := dqV kk_182 (by decide +kernel)
theorem tk_X3_enter : Cond.code yX3_enter cX3_enter 6 none ∈ TB := tbm (tc5 (List.mem_of_getElem? (i := 12) rfl)) rfl
theorem gc_X3_enter : GoodIn TB (cw yX3_enter cX3_enter 6 none) := goodIn_c2 tk_X3_enter
theorem tb_223 : Cond.methodLink "ToneLines$Orders" 78 yX3_enter ∈ TB := tbm (tc5 (List.mem_of_getElem? (i := 9) rfl)) rfl
theorem tb_224 : Cond.instanceMethod yX3_enter ∈ TB := tbm (tc5 (List.mem_of_getElem? (i := 11) rfl)) rfl
theorem tb_225 : Cond.selects "ToneLines$Orders" yX3_enter yX3_enter ∈ TB := tbp (List.mem_of_getElem? (i := 33) rfl) rfl
theorem gv_X3_78 : GoodIn TB (wsV RX3 78 RX3 yX3_enter (cw yX3_enter cX3_enter 6 none)) := goodIn_4 tb_223 tb_224 tb_225 tb_214 gc_X3_enter
theorem hv_X3_enter : yX3_enter.cls = RX3 ∧ yX3_enter.cls ≠ "java/lang/invoke/MethodHandle" ∧ yX3_enter.cls ≠ "java/lang/invoke/VarHandle" ∧ (parseMethodDescriptor yX3_enter.desc).map (fun d => d.parameters.length) = some 2 := by decide +kernel
theorem dX3_reckon_183 : decode cX3_reckon 183 = .ok (.aload_n 0, 1) := dq0 kk_42 (by decide +kernel)
theorem dX3_reckon_184 : decode cX3_reckon 184 = .ok (.dup, 1) := dq0 kk_89 (by decide +kernel)
theorem dX3_reckon_185 : decode cX3_reckon 185 = .ok (.getfield 19, 3) := dqV kk_180 (by decide +kernel)
theorem dX3_reckon_188 : decode cX3_reckon 188 = .ok (.lload 11, 2) := dqU kk_22 (by decide +kernel)
theorem dX3_reckon_190 : decode cX3_reckon 190 = .ok (.lload 4, 2) := dqU kk_22 (by decide +kernel)
theorem dX3_reckon_192 : decode cX3_reckon 192 = .ok (.lcmp, 1) := dq0 kk_148 (by decide +kernel)
theorem dX3_reckon_193 : decode cX3_reckon 193 = .ok (.ifCond .ne 15, 3) := dqT kk_154 (by decide +kernel)
theorem dX3_reckon_208 : decode cX3_reckon 208 = .ok (.iconst 0, 1) := dq0 kk_3 (by decide +kernel)
theorem dX3_reckon_209 : decode cX3_reckon 209 = .ok (.iadd, 1) := dq0 kk_96 (by decide +kernel)
theorem dX3_reckon_210 : decode cX3_reckon 210 = .ok (.putfield 19, 3) := dqV kk_181 (by decide +kernel)
theorem dX3_reckon_213 : decode cX3_reckon 213 = .ok (.aload_n 0, 1) := dq0 kk_42 (by decide +kernel)
theorem dX3_reckon_214 : decode cX3_reckon 214 = .ok (.iload_n 3, 1) := dq0 kk_29 (by decide +kernel)
theorem dX3_reckon_215 : decode cX3_reckon 215 = .ok (.invokevirtual 82, 3) := dqV kk_182 (by decide +kernel)
theorem tk_X3_nextOrder : Cond.code yX3_nextOrder cX3_nextOrder 6 (some .int) ∈ TB := tbm (tc5 (List.mem_of_getElem? (i := 16) rfl)) rfl
theorem gc_X3_nextOrder : GoodIn TB (cw yX3_nextOrder cX3_nextOrder 6 (some .int)) := goodIn_c2 tk_X3_nextOrder
theorem tb_226 : Cond.methodLink "ToneLines$Orders" 82 yX3_nextOrder ∈ TB := tbm (tc5 (List.mem_of_getElem? (i := 13) rfl)) rfl
theorem tb_227 : Cond.instanceMethod yX3_nextOrder ∈ TB := tbm (tc5 (List.mem_of_getElem? (i := 15) rfl)) rfl
theorem tb_228 : Cond.selects "ToneLines$Orders" yX3_nextOrder yX3_nextOrder ∈ TB := tbp (List.mem_of_getElem? (i := 34) rfl) rfl
theorem gv_X3_82 : GoodIn TB (wsV RX3 82 RX3 yX3_nextOrder (cw yX3_nextOrder cX3_nextOrder 6 (some .int))) := goodIn_4 tb_226 tb_227 tb_228 tb_214 gc_X3_nextOrder
theorem hv_X3_nextOrder : yX3_nextOrder.cls = RX3 ∧ yX3_nextOrder.cls ≠ "java/lang/invoke/MethodHandle" ∧ yX3_nextOrder.cls ≠ "java/lang/invoke/VarHandle" ∧ (parseMethodDescriptor yX3_nextOrder.desc).map (fun d => d.parameters.length) = some 1 := by decide +kernel
theorem dX3_reckon_218 : decode cX3_reckon 218 = .ok (.istore 9, 2) := dqU kk_54 (by decide +kernel)
theorem dX3_reckon_220 : decode cX3_reckon 220 = .ok (.iinc 10 1, 3) := dqI kk_132 (by decide +kernel)
theorem dX3_reckon_223 : decode cX3_reckon 223 = .ok (.goto (-140), 3) := dqT kk_167 (by decide +kernel)
theorem dX3_reckon_196 : decode cX3_reckon 196 = .ok (.lload 13, 2) := dqU kk_22 (by decide +kernel)
theorem dX3_reckon_198 : decode cX3_reckon 198 = .ok (.lload 6, 2) := dqU kk_22 (by decide +kernel)
theorem dX3_reckon_200 : decode cX3_reckon 200 = .ok (.lcmp, 1) := dq0 kk_148 (by decide +kernel)
theorem dX3_reckon_201 : decode cX3_reckon 201 = .ok (.ifCond .ne 7, 3) := dqT kk_154 (by decide +kernel)
theorem dX3_reckon_204 : decode cX3_reckon 204 = .ok (.iconst 1, 1) := dq0 kk_4 (by decide +kernel)
theorem dX3_reckon_205 : decode cX3_reckon 205 = .ok (.goto 4, 3) := dqT kk_167 (by decide +kernel)
theorem dX3_reckon_226 : decode cX3_reckon 226 = .ok (.aload_n 0, 1) := dq0 kk_42 (by decide +kernel)
theorem dX3_reckon_227 : decode cX3_reckon 227 = .ok (.iconst 1, 1) := dq0 kk_4 (by decide +kernel)
theorem dX3_reckon_228 : decode cX3_reckon 228 = .ok (.putfield 9, 3) := dqV kk_181 (by decide +kernel)
theorem tb_229 : Cond.fieldLink "ToneLines$Orders" 9 "ToneLines$Orders" "inDate" "Z" ∈ TB := tbm (tc1 (List.mem_of_getElem? (i := 229) rfl)) rfl
theorem dX3_reckon_231 : decode cX3_reckon 231 = .ok (.return_, 1) := dq0 kk_177 (by decide +kernel)
theorem dX3_reckon_39 : decode cX3_reckon 39 = .ok (.aload_n 0, 1) := dq0 kk_42 (by decide +kernel)
theorem dX3_reckon_40 : decode cX3_reckon 40 = .ok (.getfield 22, 3) := dqV kk_180 (by decide +kernel)
theorem dX3_reckon_43 : decode cX3_reckon 43 = .ok (.iload 9, 2) := dqU kk_21 (by decide +kernel)
theorem dX3_reckon_45 : decode cX3_reckon 45 = .ok (.iload 9, 2) := dqU kk_21 (by decide +kernel)
theorem dX3_reckon_47 : decode cX3_reckon 47 = .ok (.iastore, 1) := dq0 kk_79 (by decide +kernel)
theorem dX3_reckon_48 : decode cX3_reckon 48 = .ok (.iinc 9 1, 3) := dqI kk_132 (by decide +kernel)
theorem dX3_reckon_51 : decode cX3_reckon 51 = .ok (.goto (-18), 3) := dqT kk_167 (by decide +kernel)
theorem dX3_reckon_107 : decode cX3_reckon 107 = .ok (.aload_n 0, 1) := dq0 kk_42 (by decide +kernel)
theorem dX3_reckon_108 : decode cX3_reckon 108 = .ok (.getfield 28, 3) := dqV kk_180 (by decide +kernel)
theorem dX3_reckon_111 : decode cX3_reckon 111 = .ok (.iload 11, 2) := dqU kk_21 (by decide +kernel)
theorem dX3_reckon_113 : decode cX3_reckon 113 = .ok (.iconst 1, 1) := dq0 kk_4 (by decide +kernel)
theorem dX3_reckon_114 : decode cX3_reckon 114 = .ok (.iadd, 1) := dq0 kk_96 (by decide +kernel)
theorem dX3_reckon_115 : decode cX3_reckon 115 = .ok (.aaload, 1) := dq0 kk_50 (by decide +kernel)
theorem dX3_reckon_116 : decode cX3_reckon 116 = .ok (.aload_n 0, 1) := dq0 kk_42 (by decide +kernel)
theorem dX3_reckon_117 : decode cX3_reckon 117 = .ok (.getfield 28, 3) := dqV kk_180 (by decide +kernel)
theorem dX3_reckon_120 : decode cX3_reckon 120 = .ok (.iload 11, 2) := dqU kk_21 (by decide +kernel)
theorem dX3_reckon_122 : decode cX3_reckon 122 = .ok (.aaload, 1) := dq0 kk_50 (by decide +kernel)
theorem dX3_reckon_123 : decode cX3_reckon 123 = .ok (.invokevirtual 60, 3) := dqV kk_182 (by decide +kernel)
theorem dX3_reckon_126 : decode cX3_reckon 126 = .ok (.aload_n 1, 1) := dq0 kk_43 (by decide +kernel)
theorem dX3_reckon_127 : decode cX3_reckon 127 = .ok (.getfield 64, 3) := dqV kk_180 (by decide +kernel)
theorem tb_230 : Cond.fieldLink "ToneLines$Orders" 64 "ToneLines$Derivation" "doer" "LToneLines$Doer;" ∈ TB := tbm (tc1 (List.mem_of_getElem? (i := 164) rfl)) rfl
theorem dX3_reckon_130 : decode cX3_reckon 130 = .ok (.aload_n 1, 1) := dq0 kk_43 (by decide +kernel)
theorem dX3_reckon_131 : decode cX3_reckon 131 = .ok (.getfield 68, 3) := dqV kk_180 (by decide +kernel)
theorem tb_231 : Cond.fieldLink "ToneLines$Orders" 68 "ToneLines$Derivation" "list" "[LToneLines$Rule;" ∈ TB := tbm (tc1 (List.mem_of_getElem? (i := 168) rfl)) rfl
theorem dX3_reckon_134 : decode cX3_reckon 134 = .ok (.aload_n 0, 1) := dq0 kk_42 (by decide +kernel)
theorem dX3_reckon_135 : decode cX3_reckon 135 = .ok (.getfield 22, 3) := dqV kk_180 (by decide +kernel)
theorem dX3_reckon_138 : decode cX3_reckon 138 = .ok (.iload 11, 2) := dqU kk_21 (by decide +kernel)
theorem dX3_reckon_140 : decode cX3_reckon 140 = .ok (.iaload, 1) := dq0 kk_46 (by decide +kernel)
theorem dX3_reckon_141 : decode cX3_reckon 141 = .ok (.aaload, 1) := dq0 kk_50 (by decide +kernel)
theorem dX3_reckon_142 : decode cX3_reckon 142 = .ok (.aload_n 0, 1) := dq0 kk_42 (by decide +kernel)
theorem dX3_reckon_143 : decode cX3_reckon 143 = .ok (.getfield 28, 3) := dqV kk_180 (by decide +kernel)
theorem dX3_reckon_146 : decode cX3_reckon 146 = .ok (.iload 11, 2) := dqU kk_21 (by decide +kernel)
theorem dX3_reckon_148 : decode cX3_reckon 148 = .ok (.iconst 1, 1) := dq0 kk_4 (by decide +kernel)
theorem dX3_reckon_149 : decode cX3_reckon 149 = .ok (.iadd, 1) := dq0 kk_96 (by decide +kernel)
theorem dX3_reckon_150 : decode cX3_reckon 150 = .ok (.aaload, 1) := dq0 kk_50 (by decide +kernel)
theorem dX3_reckon_151 : decode cX3_reckon 151 = .ok (.invokevirtual 72, 3) := dqV kk_182 (by decide +kernel)
theorem tb_232 : Cond.methodLink "ToneLines$Orders" 72 yX1_perform ∈ TB := tbm (tc5 (List.mem_of_getElem? (i := 8) rfl)) rfl
theorem gv_X3_72 : GoodIn TB (wsV RX3 72 RX1 yX1_perform (cw yX1_perform cX1_perform 6 (some .int))) := goodIn_4 tb_232 tb_196 tb_197 tb_76 gc_X1_perform
theorem dX3_reckon_154 : decode cX3_reckon 154 = .ok (.pop, 1) := dq0 kk_87 (by decide +kernel)
theorem dX3_reckon_155 : decode cX3_reckon 155 = .ok (.iinc 11 1, 3) := dqI kk_132 (by decide +kernel)
theorem dX3_reckon_158 : decode cX3_reckon 158 = .ok (.goto (-57), 3) := dqT kk_167 (by decide +kernel)
set_option maxRecDepth 4000 in
theorem q_X3_reckon {l : Launch} {D : va_G} {B : Nat} {cy : Nat → ClassId} {M : Mem} {a : Nat} (hka : kd a = (9, 0, 0)) (hI : Inv M) : Cv l D B cy yX3_reckon cX3_reckon 15 5 133 [.ref (B + 109), .ref (B + 22), .ref (B + a)] M (fun M1 => Inv M1 ∧ Fr (fun b9 k9 => (b9 = 109 ∧ k9 = 0) ∨ (b9 = 109 ∧ k9 = 1) ∨ (b9 = 109 ∧ k9 = 2) ∨ (b9 = 23 ∧ k9 = 0) ∨ b9 = 110 ∨ (114 ≤ b9 ∧ b9 ≤ 134)) M1 M) := by
  refine s_anyQ (by decide) (Nat.le_of_ble_eq_true rfl) ?_
  intro p e s m args below meth c ls Q F hr hlocks hQ w hl
  have F : CallFix p m c cX3_reckon 15 s args TB RX3 := F
  have hx := F.1
  have hb := F.2.1
  have hl : lv_has ls 15 [(0, .ref (B + 109)), (1, .ref (B + 22)), (2, .ref (B + a))] := hl
  have hF : Fr (fun b9 k9 => (b9 = 109 ∧ k9 = 0) ∨ (b9 = 109 ∧ k9 = 1) ∨ (b9 = 109 ∧ k9 = 2) ∨ (b9 = 23 ∧ k9 = 0) ∨ b9 = 110 ∨ (114 ≤ b9 ∧ b9 ≤ 134)) M M := Fr.rf
  refine lv_aload_n hx hb dX3_reckon_0 rfl (lv_at hl 1 rfl) ?_
  refine f_0_2 F w (a := 22) rfl tb_215 dX3_reckon_1 ?_
  obtain ⟨z1, bz1, ez1⟩ := Inv.ld (k := 2) hI (show iv 22 2 = (0, 8) from rfl) (show 22 < 146 by decide)
  refine r_val ez1 ?_
  refine lv_bipush (v := zI 6) hx hb dX3_reckon_4 (by decide) ?_
  obtain ⟨z2, bz2, ez2⟩ := min_ex z1 6 (by omega) (by omega)
  refine g_min F hl.1 tb_216 tb_178 tb_52 tq_min (Nat.le_of_ble_eq_true rfl) (Nat.le_of_ble_eq_true rfl) (Nat.zero_le _) (Nat.zero_le _) (v := zI z2) ez2 dX3_reckon_6 ?_
  refine lv_istore_n (lv' := [(3, .int (zI z2)), (0, .ref (B + 109)), (1, .ref (B + 22)), (2, .ref (B + a))]) hx hb dX3_reckon_9 rfl hl (by decide) rfl (fun ls hl => ?_)
  refine lv_aload_n hx hb dX3_reckon_10 rfl (lv_at hl 3 rfl) ?_
  refine k_Vl F w (As := []) (rest := []) (a := a) (kd_lt (a := a) hka (by decide)) (sh_9 hka _ _) rfl (q_X9_kindsRead (a := a) hka  hI) gv_X3_51 hv_X9_kindsRead ⟨(Nat.le_of_ble_eq_true rfl), (Nat.le_of_ble_eq_true rfl)⟩ hl.1 rfl (Nat.le_of_ble_eq_true rfl) ⟨Nat.zero_le _, Nat.zero_le _⟩ dX3_reckon_11 (fun r3 N4 H locs hp w => ?_)
  rw [hp] at w
  refine lv_lstore (lv' := [(4, .long r3), (3, .int (zI z2)), (0, .ref (B + 109)), (1, .ref (B + 22)), (2, .ref (B + a))]) hx hb dX3_reckon_14 hl (by decide) rfl (fun ls hl => ?_)
  refine lv_aload_n hx hb dX3_reckon_16 rfl (lv_at hl 4 rfl) ?_
  refine k_Vl F w (As := []) (rest := []) (a := a) (kd_lt (a := a) hka (by decide)) (sh_9 hka _ _) rfl (q_X9_linesRead (a := a) hka  hI) gv_X3_54 hv_X9_linesRead ⟨(Nat.le_of_ble_eq_true rfl), (Nat.le_of_ble_eq_true rfl)⟩ hl.1 rfl (Nat.le_of_ble_eq_true rfl) ⟨Nat.zero_le _, Nat.zero_le _⟩ dX3_reckon_17 (fun r6 N7 H locs hp w => ?_)
  rw [hp] at w
  refine lv_lstore (lv' := [(6, .long r6), (4, .long r3), (3, .int (zI z2)), (0, .ref (B + 109)), (1, .ref (B + 22)), (2, .ref (B + a))]) hx hb dX3_reckon_20 hl (by decide) rfl (fun ls hl => ?_)
  refine lv_aload_n hx hb dX3_reckon_22 rfl (lv_at hl 3 rfl) ?_
  refine f_3_4 F w (a := 109) rfl tb_219 dX3_reckon_23 ?_
  refine lv_iload_n hx hb dX3_reckon_26 rfl (lv_at hl 2 rfl) ?_
  have hk9 := kd_lev (j := (Int.toNat z2)) (by omega)
  refine g_aldW F w (a := 111) rfl (j := (Int.toNat z2)) (o := (114 + 3 * (Int.toNat z2))) rfl (ix_z (by omega) (by omega)) (by omega) dX3_reckon_27 ?_
  refine lv_astore (lv' := [(8, .ref (B + (114 + 3 * (Int.toNat z2)))), (6, .long r6), (4, .long r3), (3, .int (zI z2)), (0, .ref (B + 109)), (1, .ref (B + 22)), (2, .ref (B + a))]) hx hb dX3_reckon_28 hl (by decide) rfl (fun ls hl => ?_)
  refine lv_iconst (v := zI 0) hx hb dX3_reckon_30 rfl ?_
  refine lv_istore (lv' := [(9, .int (zI 0)), (8, .ref (B + (114 + 3 * (Int.toNat z2)))), (6, .long r6), (4, .long r3), (3, .int (zI z2)), (0, .ref (B + 109)), (1, .ref (B + 22)), (2, .ref (B + a))]) hx hb dX3_reckon_31 hl (by decide) rfl (fun ls hl => ?_)
  have lp33 : ∀ (f : Nat) (v9_33 : Int)  (NL33 : Mem), (0 ≤ v9_33 ∧ v9_33 ≤ 6) → NL33.1 22 2 = zI z1 → Inv NL33 → Fr (fun b9 k9 => (b9 = 109 ∧ k9 = 0) ∨ (b9 = 109 ∧ k9 = 1) ∨ (b9 = 109 ∧ k9 = 2) ∨ (b9 = 23 ∧ k9 = 0) ∨ b9 = 110 ∨ (114 ≤ b9 ∧ b9 ≤ 134)) NL33 M → (Int.toNat (6 - v9_33) < f) → ∀ (H : Heap) (locs : List Loc) (ls : Array Slot), Wd D B cy s s.heap NL33 H locs → lv_has ls 15 [(9, .int (zI v9_33)), (8, .ref (B + (114 + 3 * (Int.toNat z2)))), (6, .long r6), (4, .long r3), (3, .int (zI z2)), (0, .ref (B + 109)), (1, .ref (B + 22)), (2, .ref (B + a))] → W p l e (rmm 5 133) s m args below meth c H locs 0 0 Q (F0 m 33 ls []) := by
    intro f
    induction f with
    | zero => intros; omega
    | succ f ih33 =>
      intro v9_33  NL33 iv9_33 eg22_2_33 hIL33 hFL33 hf33 H locs ls w hl
      refine lv_iload hx hb dX3_reckon_33 (lv_at hl 0 rfl) ?_
      refine lv_iload_n hx hb dX3_reckon_35 rfl (lv_at hl 4 rfl) ?_
      refine z_icmp_ge (tgt := 54) hx hb (by omega) (by omega) dX3_reckon_36 (by decide) (fun c10 => ?_) (fun c10 => ?_)
      · refine lv_aload_n hx hb dX3_reckon_54 rfl (lv_at hl 5 rfl) ?_
        refine f_3_4 F w (a := 109) rfl tb_219 dX3_reckon_55 ?_
        refine lv_iconst (v := zI 0) hx hb dX3_reckon_58 rfl ?_
        refine g_aldW F w (a := 111) rfl (j := 0) (o := 114) rfl ⟨by decide, by decide⟩ (by decide) dX3_reckon_59 ?_
        refine lv_aload_n hx hb dX3_reckon_60 rfl (lv_at hl 6 rfl) ?_
        refine f_0_4 F w (a := 22) rfl tb_220 dX3_reckon_61 ?_
        refine k_Vv F w (As := [.ref (B + 44)]) (rest := []) (a := 114) (kd_lt (a := 114) (show kd 114 = (9, 0, 0) from rfl) (by decide)) (sh_9 rfl _ _) rfl (q_X9_copyFrom (a := 114) rfl (d := 44) rfl  hIL33) gv_X3_60 hv_X9_copyFrom ⟨(Nat.le_of_ble_eq_true rfl), (Nat.le_of_ble_eq_true rfl)⟩ hl.1 rfl (Nat.le_of_ble_eq_true rfl) ⟨Nat.zero_le _, Nat.zero_le _⟩ dX3_reckon_64 (fun N12 H locs hp w => ?_)
        obtain ⟨hIN12, hFN12⟩ := hp
        have hGN12 := Fr.tr hFL33 hFN12 (S := (fun b9 k9 => (b9 = 109 ∧ k9 = 0) ∨ (b9 = 109 ∧ k9 = 1) ∨ (b9 = 109 ∧ k9 = 2) ∨ (b9 = 23 ∧ k9 = 0) ∨ b9 = 110 ∨ (114 ≤ b9 ∧ b9 ≤ 134))) (fun b k h => by first | omega | (dsimp only at h ⊢; omega))
        have kn14 : N12.1 22 2 = zI z1 := (hFN12 22 2 (by first | omega | (dsimp only; omega))).trans (eg22_2_33)
        refine lv_aload_n hx hb dX3_reckon_67 rfl (lv_at hl 5 rfl) ?_
        refine lv_iconst (v := zI 0) hx hb dX3_reckon_68 rfl ?_
        refine u_3_1 F w (a := 109) rfl tb_207 dX3_reckon_69 (fun H locs w => ?_)
        refine lv_aload_n hx hb dX3_reckon_72 rfl (lv_at hl 5 rfl) ?_
        refine lv_iconst (v := zI 0) hx hb dX3_reckon_73 rfl ?_
        refine u_3_2 F w (a := 109) rfl tb_222 dX3_reckon_74 (fun H locs w => ?_)
        refine lv_iconst (v := zI 0) hx hb dX3_reckon_77 rfl ?_
        refine lv_istore (lv' := [(9, .int (zI 0)), (8, .ref (B + (114 + 3 * (Int.toNat z2)))), (6, .long r6), (4, .long r3), (3, .int (zI z2)), (0, .ref (B + 109)), (1, .ref (B + 22)), (2, .ref (B + a))]) hx hb dX3_reckon_78 hl (by decide) rfl (fun ls hl => ?_)
        refine lv_iconst (v := zI 0) hx hb dX3_reckon_80 rfl ?_
        refine lv_istore (lv' := [(10, .int (zI 0)), (9, .int (zI 0)), (8, .ref (B + (114 + 3 * (Int.toNat z2)))), (6, .long r6), (4, .long r3), (3, .int (zI z2)), (0, .ref (B + 109)), (1, .ref (B + 22)), (2, .ref (B + a))]) hx hb dX3_reckon_81 hl (by decide) rfl (fun ls hl => ?_)
        have lp83 : ∀ (f : Nat) (v10_83 : Int) (v9_83 : Int) (g109_2_83 : Int) (NL83 : Mem), (0 ≤ v10_83 ∧ v10_83 ≤ 720) → ((-1) ≤ v9_83 ∧ v9_83 ≤ 4) → ((-2147483648) ≤ g109_2_83 ∧ g109_2_83 ≤ 2147483647) → NL83.1 109 2 = zI g109_2_83 → NL83.1 22 2 = zI z1 → Inv NL83 → Fr (fun b9 k9 => (b9 = 109 ∧ k9 = 0) ∨ (b9 = 109 ∧ k9 = 1) ∨ (b9 = 109 ∧ k9 = 2) ∨ (b9 = 23 ∧ k9 = 0) ∨ b9 = 110 ∨ (114 ≤ b9 ∧ b9 ≤ 134)) NL83 M → (Int.toNat (720 - v10_83) < f) → ∀ (H : Heap) (locs : List Loc) (ls : Array Slot), Wd D B cy s s.heap NL83 H locs → lv_has ls 15 [(10, .int (zI v10_83)), (9, .int (zI v9_83)), (8, .ref (B + (114 + 3 * (Int.toNat z2)))), (6, .long r6), (4, .long r3), (3, .int (zI z2)), (0, .ref (B + 109)), (1, .ref (B + 22)), (2, .ref (B + a))] → W p l e (rmm 5 133) s m args below meth c H locs 0 0 Q (F0 m 83 ls []) := by
          intro f
          induction f with
          | zero => intros; omega
          | succ f ih83 =>
            intro v10_83 v9_83 g109_2_83 NL83 iv10_83 iv9_83 ig109_2_83 eg109_2_83 eg22_2_83 hIL83 hFL83 hf83 H locs ls w hl
            refine lv_iload hx hb dX3_reckon_83 (lv_at hl 0 rfl) ?_
            refine lv_sipush (v := zI 720) hx hb dX3_reckon_85 (by decide) ?_
            refine z_icmp_ge (tgt := 226) hx hb (by omega) (by omega) dX3_reckon_88 (by decide) (fun c15 => ?_) (fun c15 => ?_)
            · refine lv_aload_n hx hb dX3_reckon_226 rfl (lv_at hl 6 rfl) ?_
              refine lv_iconst (v := zI 1) hx hb dX3_reckon_227 rfl ?_
              refine u_3_0 F w (a := 109) rfl (nar_z (by omega)) (fit_z (by omega)) tb_229 dX3_reckon_228 (fun H locs w => ?_)
              rw [hQ]
              exact e_v F w hr hlocks ⟨(Inv.to hIL83 (a := 109) (k := 0) (x := 1) (show iv 109 0 = (0, 1) from rfl) (by omega)), (Fr.to hFL83 (by first | omega | (dsimp only; first | done | omega)))⟩ dX3_reckon_231
            · refine lv_iload hx hb dX3_reckon_91 (lv_at hl 1 rfl) ?_
              refine lv_iconst (v := zI (-1)) hx hb dX3_reckon_93 rfl ?_
              refine z_icmp_eq (tgt := 226) hx hb (by omega) (by omega) dX3_reckon_94 (by decide) (fun c16 => ?_) (fun c16 => ?_)
              · refine lv_aload_n hx hb dX3_reckon_226 rfl (lv_at hl 6 rfl) ?_
                refine lv_iconst (v := zI 1) hx hb dX3_reckon_227 rfl ?_
                refine u_3_0 F w (a := 109) rfl (nar_z (by omega)) (fit_z (by omega)) tb_229 dX3_reckon_228 (fun H locs w => ?_)
                rw [hQ]
                exact e_v F w hr hlocks ⟨(Inv.to hIL83 (a := 109) (k := 0) (x := 1) (show iv 109 0 = (0, 1) from rfl) (by omega)), (Fr.to hFL83 (by first | omega | (dsimp only; first | done | omega)))⟩ dX3_reckon_231
              · refine lv_iload hx hb dX3_reckon_97 (lv_at hl 1 rfl) ?_
                refine lv_istore (lv' := [(11, .int (zI v9_83)), (10, .int (zI v10_83)), (9, .int (zI v9_83)), (8, .ref (B + (114 + 3 * (Int.toNat z2)))), (6, .long r6), (4, .long r3), (3, .int (zI z2)), (0, .ref (B + 109)), (1, .ref (B + 22)), (2, .ref (B + a))]) hx hb dX3_reckon_99 hl (by decide) rfl (fun ls hl => ?_)
                have lp101 : ∀ (f : Nat) (v11_101 : Int)  (NL101 : Mem), (0 ≤ v11_101 ∧ v11_101 ≤ 6) → NL101.1 22 2 = zI z1 → NL101.1 109 2 = zI g109_2_83 → Inv NL101 → Fr (fun b9 k9 => (b9 = 109 ∧ k9 = 0) ∨ (b9 = 109 ∧ k9 = 1) ∨ (b9 = 109 ∧ k9 = 2) ∨ (b9 = 23 ∧ k9 = 0) ∨ b9 = 110 ∨ (114 ≤ b9 ∧ b9 ≤ 134)) NL101 M → (Int.toNat (6 - v11_101) < f) → ∀ (H : Heap) (locs : List Loc) (ls : Array Slot), Wd D B cy s s.heap NL101 H locs → lv_has ls 15 [(11, .int (zI v11_101)), (10, .int (zI v10_83)), (9, .int (zI v9_83)), (8, .ref (B + (114 + 3 * (Int.toNat z2)))), (6, .long r6), (4, .long r3), (3, .int (zI z2)), (0, .ref (B + 109)), (1, .ref (B + 22)), (2, .ref (B + a))] → W p l e (rmm 5 133) s m args below meth c H locs 0 0 Q (F0 m 101 ls []) := by
                  intro f
                  induction f with
                  | zero => intros; omega
                  | succ f ih101 =>
                    intro v11_101  NL101 iv11_101 eg22_2_101 eg109_2_101 hIL101 hFL101 hf101 H locs ls w hl
                    refine lv_iload hx hb dX3_reckon_101 (lv_at hl 0 rfl) ?_
                    refine lv_iload_n hx hb dX3_reckon_103 rfl (lv_at hl 6 rfl) ?_
                    refine z_icmp_ge (tgt := 161) hx hb (by omega) (by omega) dX3_reckon_104 (by decide) (fun c17 => ?_) (fun c17 => ?_)
                    · refine lv_aload hx hb dX3_reckon_161 (lv_at hl 3 rfl) ?_
                      refine k_Vl F w (As := []) (rest := []) (a := (114 + 3 * (Int.toNat z2))) (kd_lt (a := (114 + 3 * (Int.toNat z2))) hk9 (by decide)) (sh_9 hk9 _ _) rfl (q_X9_kindsRead (a := (114 + 3 * (Int.toNat z2))) hk9  hIL101) gv_X3_51 hv_X9_kindsRead ⟨(Nat.le_of_ble_eq_true rfl), (Nat.le_of_ble_eq_true rfl)⟩ hl.1 rfl (Nat.le_of_ble_eq_true rfl) ⟨Nat.zero_le _, Nat.zero_le _⟩ dX3_reckon_163 (fun r18 N19 H locs hp w => ?_)
                      rw [hp] at w
                      refine lv_lstore (lv' := [(11, .long r18), (10, .int (zI v10_83)), (9, .int (zI v9_83)), (8, .ref (B + (114 + 3 * (Int.toNat z2)))), (6, .long r6), (4, .long r3), (3, .int (zI z2)), (0, .ref (B + 109)), (1, .ref (B + 22)), (2, .ref (B + a))]) hx hb dX3_reckon_166 hl (by decide) rfl (fun ls hl => ?_)
                      refine lv_aload hx hb dX3_reckon_168 (lv_at hl 3 rfl) ?_
                      refine k_Vl F w (As := []) (rest := []) (a := (114 + 3 * (Int.toNat z2))) (kd_lt (a := (114 + 3 * (Int.toNat z2))) hk9 (by decide)) (sh_9 hk9 _ _) rfl (q_X9_linesRead (a := (114 + 3 * (Int.toNat z2))) hk9  hIL101) gv_X3_54 hv_X9_linesRead ⟨(Nat.le_of_ble_eq_true rfl), (Nat.le_of_ble_eq_true rfl)⟩ hl.1 rfl (Nat.le_of_ble_eq_true rfl) ⟨Nat.zero_le _, Nat.zero_le _⟩ dX3_reckon_170 (fun r21 N22 H locs hp w => ?_)
                      rw [hp] at w
                      refine lv_lstore (lv' := [(13, .long r21), (11, .long r18), (10, .int (zI v10_83)), (9, .int (zI v9_83)), (8, .ref (B + (114 + 3 * (Int.toNat z2)))), (6, .long r6), (4, .long r3), (3, .int (zI z2)), (0, .ref (B + 109)), (1, .ref (B + 22)), (2, .ref (B + a))]) hx hb dX3_reckon_173 hl (by decide) rfl (fun ls hl => ?_)
                      refine lv_aload_n hx hb dX3_reckon_175 rfl (lv_at hl 8 rfl) ?_
                      refine lv_lload hx hb dX3_reckon_176 (lv_at hl 1 rfl) ?_
                      refine lv_lload hx hb dX3_reckon_178 (lv_at hl 0 rfl) ?_
                      refine k_Vv F w (As := [.long r18, .long r21]) (rest := []) (a := 109) (kd_lt (a := 109) (show kd 109 = (3, 0, 0) from rfl) (by decide)) (sh_3 rfl _ _) rfl (q_X3_enter   hIL101) gv_X3_78 hv_X3_enter ⟨(Nat.le_of_ble_eq_true rfl), (Nat.le_of_ble_eq_true rfl)⟩ hl.1 rfl (Nat.le_of_ble_eq_true rfl) ⟨Nat.zero_le _, Nat.zero_le _⟩ dX3_reckon_180 (fun N25 H locs hp w => ?_)
                      obtain ⟨hIN25, hFN25⟩ := hp
                      have hGN25 := Fr.tr hFL101 hFN25 (S := (fun b9 k9 => (b9 = 109 ∧ k9 = 0) ∨ (b9 = 109 ∧ k9 = 1) ∨ (b9 = 109 ∧ k9 = 2) ∨ (b9 = 23 ∧ k9 = 0) ∨ b9 = 110 ∨ (114 ≤ b9 ∧ b9 ≤ 134))) (fun b k h => by first | omega | (dsimp only at h ⊢; omega))
                      have kn27 : N25.1 22 2 = zI z1 := (hFN25 22 2 (by first | omega | (dsimp only; omega))).trans (eg22_2_101)
                      have kn28 : N25.1 109 2 = zI g109_2_83 := (hFN25 109 2 (by first | omega | (dsimp only; omega))).trans (eg109_2_101)
                      refine lv_aload_n hx hb dX3_reckon_183 rfl (lv_at hl 8 rfl) ?_
                      refine lv_dup hx hb dX3_reckon_184 rfl ?_
                      refine f_3_2 F w (a := 109) rfl tb_222 dX3_reckon_185 ?_
                      refine r_val (v := zI g109_2_83) (kn28) ?_
                      refine lv_lload hx hb dX3_reckon_188 (lv_at hl 1 rfl) ?_
                      refine lv_lload hx hb dX3_reckon_190 (lv_at hl 6 rfl) ?_
                      refine W.lcmp hx hb dX3_reckon_192 ?_
                      refine lv_topi (fun u29 eu29 => ?_)
                      obtain ⟨z30, bz30, rfl⟩ := rg_ex u29
                      refine z_if_ne (tgt := 208) hx hb (by omega) dX3_reckon_193 (by decide) (fun c31 => ?_) (fun c31 => ?_)
                      · refine lv_iconst (v := zI 0) hx hb dX3_reckon_208 rfl ?_
                        refine z_iadd (z := g109_2_83) hx hb dX3_reckon_209 (by omega) ?_
                        refine u_3_2 F w (a := 109) rfl tb_222 dX3_reckon_210 (fun H locs w => ?_)
                        refine lv_aload_n hx hb dX3_reckon_213 rfl (lv_at hl 8 rfl) ?_
                        refine lv_iload_n hx hb dX3_reckon_214 rfl (lv_at hl 7 rfl) ?_
                        refine k_Vi F w (As := [.int (zI z2)]) (rest := []) (a := 109) (kd_lt (a := 109) (show kd 109 = (3, 0, 0) from rfl) (by decide)) (sh_3 rfl _ _) rfl (q_X3_nextOrder (x := z2) (by omega)  (Inv.to hIN25 (a := 109) (k := 2) (x := g109_2_83) (show iv 109 2 = ((-2147483648), 2147483647) from rfl) (by omega))) gv_X3_82 hv_X3_nextOrder ⟨(Nat.le_of_ble_eq_true rfl), (Nat.le_of_ble_eq_true rfl)⟩ hl.1 rfl (Nat.le_of_ble_eq_true rfl) ⟨Nat.zero_le _, Nat.zero_le _⟩ dX3_reckon_215 (fun r32 N33 H locs hp w => ?_)
                        obtain ⟨z34, rfl, bz34, hIN33, hFN33⟩ := hp
                        have hGN33 := Fr.tr (Fr.to hGN25 (by first | omega | (dsimp only; first | done | omega))) hFN33 (S := (fun b9 k9 => (b9 = 109 ∧ k9 = 0) ∨ (b9 = 109 ∧ k9 = 1) ∨ (b9 = 109 ∧ k9 = 2) ∨ (b9 = 23 ∧ k9 = 0) ∨ b9 = 110 ∨ (114 ≤ b9 ∧ b9 ≤ 134))) (fun b k h => by first | omega | (dsimp only at h ⊢; omega))
                        have kn35 : N33.1 22 2 = zI z1 := (hFN33 22 2 (by first | omega | (dsimp only; omega))).trans ((st_ne (Or.inl (by decide))).trans kn27)
                        have kn36 : N33.1 109 2 = zI g109_2_83 := (hFN33 109 2 (by first | omega | (dsimp only; omega))).trans (st_at)
                        refine lv_istore (lv' := [(9, .int (zI z34)), (13, .long r21), (11, .long r18), (10, .int (zI v10_83)), (8, .ref (B + (114 + 3 * (Int.toNat z2)))), (6, .long r6), (4, .long r3), (3, .int (zI z2)), (0, .ref (B + 109)), (1, .ref (B + 22)), (2, .ref (B + a))]) hx hb dX3_reckon_218 hl (by decide) rfl (fun ls hl => ?_)
                        refine z_iinc (v := (v10_83 + 1)) (lv' := [(10, .int (zI (v10_83 + 1))), (9, .int (zI z34)), (13, .long r21), (11, .long r18), (8, .ref (B + (114 + 3 * (Int.toNat z2)))), (6, .long r6), (4, .long r3), (3, .int (zI z2)), (0, .ref (B + 109)), (1, .ref (B + 22)), (2, .ref (B + a))]) hx hb dX3_reckon_220 hl (k := 3) rfl (by omega) (by decide) rfl (fun ls hl => ?_)
                        refine lv_goto (tgt := 83) hx hb dX3_reckon_223 (by decide) ?_
                        exact ih83 (v10_83 + 1) z34 g109_2_83 N33 (by omega) (by omega) (by omega) (kn36) (kn35)  hIN33 hGN33 (by omega) _ _ _ w (lv_sub hl [0, 1, 4, 5, 6, 7, 8, 9, 10] rfl)
                      · refine lv_lload hx hb dX3_reckon_196 (lv_at hl 0 rfl) ?_
                        refine lv_lload hx hb dX3_reckon_198 (lv_at hl 5 rfl) ?_
                        refine W.lcmp hx hb dX3_reckon_200 ?_
                        refine lv_topi (fun u37 eu37 => ?_)
                        obtain ⟨z38, bz38, rfl⟩ := rg_ex u37
                        refine z_if_ne (tgt := 208) hx hb (by omega) dX3_reckon_201 (by decide) (fun c39 => ?_) (fun c39 => ?_)
                        · refine lv_iconst (v := zI 0) hx hb dX3_reckon_208 rfl ?_
                          refine z_iadd (z := g109_2_83) hx hb dX3_reckon_209 (by omega) ?_
                          refine u_3_2 F w (a := 109) rfl tb_222 dX3_reckon_210 (fun H locs w => ?_)
                          refine lv_aload_n hx hb dX3_reckon_213 rfl (lv_at hl 8 rfl) ?_
                          refine lv_iload_n hx hb dX3_reckon_214 rfl (lv_at hl 7 rfl) ?_
                          refine k_Vi F w (As := [.int (zI z2)]) (rest := []) (a := 109) (kd_lt (a := 109) (show kd 109 = (3, 0, 0) from rfl) (by decide)) (sh_3 rfl _ _) rfl (q_X3_nextOrder (x := z2) (by omega)  (Inv.to hIN25 (a := 109) (k := 2) (x := g109_2_83) (show iv 109 2 = ((-2147483648), 2147483647) from rfl) (by omega))) gv_X3_82 hv_X3_nextOrder ⟨(Nat.le_of_ble_eq_true rfl), (Nat.le_of_ble_eq_true rfl)⟩ hl.1 rfl (Nat.le_of_ble_eq_true rfl) ⟨Nat.zero_le _, Nat.zero_le _⟩ dX3_reckon_215 (fun r40 N41 H locs hp w => ?_)
                          obtain ⟨z42, rfl, bz42, hIN41, hFN41⟩ := hp
                          have hGN41 := Fr.tr (Fr.to hGN25 (by first | omega | (dsimp only; first | done | omega))) hFN41 (S := (fun b9 k9 => (b9 = 109 ∧ k9 = 0) ∨ (b9 = 109 ∧ k9 = 1) ∨ (b9 = 109 ∧ k9 = 2) ∨ (b9 = 23 ∧ k9 = 0) ∨ b9 = 110 ∨ (114 ≤ b9 ∧ b9 ≤ 134))) (fun b k h => by first | omega | (dsimp only at h ⊢; omega))
                          have kn43 : N41.1 22 2 = zI z1 := (hFN41 22 2 (by first | omega | (dsimp only; omega))).trans ((st_ne (Or.inl (by decide))).trans kn27)
                          have kn44 : N41.1 109 2 = zI g109_2_83 := (hFN41 109 2 (by first | omega | (dsimp only; omega))).trans (st_at)
                          refine lv_istore (lv' := [(9, .int (zI z42)), (13, .long r21), (11, .long r18), (10, .int (zI v10_83)), (8, .ref (B + (114 + 3 * (Int.toNat z2)))), (6, .long r6), (4, .long r3), (3, .int (zI z2)), (0, .ref (B + 109)), (1, .ref (B + 22)), (2, .ref (B + a))]) hx hb dX3_reckon_218 hl (by decide) rfl (fun ls hl => ?_)
                          refine z_iinc (v := (v10_83 + 1)) (lv' := [(10, .int (zI (v10_83 + 1))), (9, .int (zI z42)), (13, .long r21), (11, .long r18), (8, .ref (B + (114 + 3 * (Int.toNat z2)))), (6, .long r6), (4, .long r3), (3, .int (zI z2)), (0, .ref (B + 109)), (1, .ref (B + 22)), (2, .ref (B + a))]) hx hb dX3_reckon_220 hl (k := 3) rfl (by omega) (by decide) rfl (fun ls hl => ?_)
                          refine lv_goto (tgt := 83) hx hb dX3_reckon_223 (by decide) ?_
                          exact ih83 (v10_83 + 1) z42 g109_2_83 N41 (by omega) (by omega) (by omega) (kn44) (kn43)  hIN41 hGN41 (by omega) _ _ _ w (lv_sub hl [0, 1, 4, 5, 6, 7, 8, 9, 10] rfl)
                        · refine lv_iconst (v := zI 1) hx hb dX3_reckon_204 rfl ?_
                          refine lv_goto (tgt := 209) hx hb dX3_reckon_205 (by decide) ?_
                          obtain ⟨z45, bz45, x0z45, ez45⟩ := add_ex g109_2_83 1
                          refine lv_iadd hx hb dX3_reckon_209 ?_
                          refine r_val ez45 ?_
                          refine u_3_2 F w (a := 109) rfl tb_222 dX3_reckon_210 (fun H locs w => ?_)
                          refine lv_aload_n hx hb dX3_reckon_213 rfl (lv_at hl 8 rfl) ?_
                          refine lv_iload_n hx hb dX3_reckon_214 rfl (lv_at hl 7 rfl) ?_
                          refine k_Vi F w (As := [.int (zI z2)]) (rest := []) (a := 109) (kd_lt (a := 109) (show kd 109 = (3, 0, 0) from rfl) (by decide)) (sh_3 rfl _ _) rfl (q_X3_nextOrder (x := z2) (by omega)  (Inv.to hIN25 (a := 109) (k := 2) (x := z45) (show iv 109 2 = ((-2147483648), 2147483647) from rfl) (by omega))) gv_X3_82 hv_X3_nextOrder ⟨(Nat.le_of_ble_eq_true rfl), (Nat.le_of_ble_eq_true rfl)⟩ hl.1 rfl (Nat.le_of_ble_eq_true rfl) ⟨Nat.zero_le _, Nat.zero_le _⟩ dX3_reckon_215 (fun r46 N47 H locs hp w => ?_)
                          obtain ⟨z48, rfl, bz48, hIN47, hFN47⟩ := hp
                          have hGN47 := Fr.tr (Fr.to hGN25 (by first | omega | (dsimp only; first | done | omega))) hFN47 (S := (fun b9 k9 => (b9 = 109 ∧ k9 = 0) ∨ (b9 = 109 ∧ k9 = 1) ∨ (b9 = 109 ∧ k9 = 2) ∨ (b9 = 23 ∧ k9 = 0) ∨ b9 = 110 ∨ (114 ≤ b9 ∧ b9 ≤ 134))) (fun b k h => by first | omega | (dsimp only at h ⊢; omega))
                          have kn49 : N47.1 22 2 = zI z1 := (hFN47 22 2 (by first | omega | (dsimp only; omega))).trans ((st_ne (Or.inl (by decide))).trans kn27)
                          have kn50 : N47.1 109 2 = zI z45 := (hFN47 109 2 (by first | omega | (dsimp only; omega))).trans (st_at)
                          refine lv_istore (lv' := [(9, .int (zI z48)), (13, .long r21), (11, .long r18), (10, .int (zI v10_83)), (8, .ref (B + (114 + 3 * (Int.toNat z2)))), (6, .long r6), (4, .long r3), (3, .int (zI z2)), (0, .ref (B + 109)), (1, .ref (B + 22)), (2, .ref (B + a))]) hx hb dX3_reckon_218 hl (by decide) rfl (fun ls hl => ?_)
                          refine z_iinc (v := (v10_83 + 1)) (lv' := [(10, .int (zI (v10_83 + 1))), (9, .int (zI z48)), (13, .long r21), (11, .long r18), (8, .ref (B + (114 + 3 * (Int.toNat z2)))), (6, .long r6), (4, .long r3), (3, .int (zI z2)), (0, .ref (B + 109)), (1, .ref (B + 22)), (2, .ref (B + a))]) hx hb dX3_reckon_220 hl (k := 3) rfl (by omega) (by decide) rfl (fun ls hl => ?_)
                          refine lv_goto (tgt := 83) hx hb dX3_reckon_223 (by decide) ?_
                          exact ih83 (v10_83 + 1) z48 z45 N47 (by omega) (by omega) (by omega) (kn50) (kn49)  hIN47 hGN47 (by omega) _ _ _ w (lv_sub hl [0, 1, 4, 5, 6, 7, 8, 9, 10] rfl)
                    · refine lv_aload_n hx hb dX3_reckon_107 rfl (lv_at hl 7 rfl) ?_
                      refine f_3_4 F w (a := 109) rfl tb_219 dX3_reckon_108 ?_
                      refine lv_iload hx hb dX3_reckon_111 (lv_at hl 0 rfl) ?_
                      refine lv_iconst (v := zI 1) hx hb dX3_reckon_113 rfl ?_
                      refine z_iadd (z := (v11_101 + 1)) hx hb dX3_reckon_114 (by omega) ?_
                      have hk51 := kd_lev (j := (Int.toNat (v11_101 + 1))) (by omega)
                      refine g_aldW F w (a := 111) rfl (j := (Int.toNat (v11_101 + 1))) (o := (114 + 3 * (Int.toNat (v11_101 + 1)))) rfl (ix_z (by omega) (by omega)) (by omega) dX3_reckon_115 ?_
                      refine lv_aload_n hx hb dX3_reckon_116 rfl (lv_at hl 7 rfl) ?_
                      refine f_3_4 F w (a := 109) rfl tb_219 dX3_reckon_117 ?_
                      refine lv_iload hx hb dX3_reckon_120 (lv_at hl 0 rfl) ?_
                      have hk52 := kd_lev (j := (Int.toNat v11_101)) (by omega)
                      refine g_aldW F w (a := 111) rfl (j := (Int.toNat v11_101)) (o := (114 + 3 * (Int.toNat v11_101))) rfl (ix_z (by omega) (by omega)) (by omega) dX3_reckon_122 ?_
                      refine k_Vv F w (As := [.ref (B + (114 + 3 * (Int.toNat v11_101)))]) (rest := []) (a := (114 + 3 * (Int.toNat (v11_101 + 1)))) (kd_lt (a := (114 + 3 * (Int.toNat (v11_101 + 1)))) hk51 (by decide)) (sh_9 hk51 _ _) rfl (q_X9_copyFrom (a := (114 + 3 * (Int.toNat (v11_101 + 1)))) hk51 (d := (114 + 3 * (Int.toNat v11_101))) hk52  hIL101) gv_X3_60 hv_X9_copyFrom ⟨(Nat.le_of_ble_eq_true rfl), (Nat.le_of_ble_eq_true rfl)⟩ hl.1 rfl (Nat.le_of_ble_eq_true rfl) ⟨Nat.zero_le _, Nat.zero_le _⟩ dX3_reckon_123 (fun N54 H locs hp w => ?_)
                      obtain ⟨hIN54, hFN54⟩ := hp
                      have hGN54 := Fr.tr hFL101 hFN54 (S := (fun b9 k9 => (b9 = 109 ∧ k9 = 0) ∨ (b9 = 109 ∧ k9 = 1) ∨ (b9 = 109 ∧ k9 = 2) ∨ (b9 = 23 ∧ k9 = 0) ∨ b9 = 110 ∨ (114 ≤ b9 ∧ b9 ≤ 134))) (fun b k h => by first | omega | (dsimp only at h ⊢; omega))
                      have kn56 : N54.1 22 2 = zI z1 := (hFN54 22 2 (by first | omega | (dsimp only; omega))).trans (eg22_2_101)
                      have kn57 : N54.1 109 2 = zI g109_2_83 := (hFN54 109 2 (by first | omega | (dsimp only; omega))).trans (eg109_2_101)
                      refine lv_aload_n hx hb dX3_reckon_126 rfl (lv_at hl 8 rfl) ?_
                      refine f_0_0 F w (a := 22) rfl tb_230 dX3_reckon_127 ?_
                      refine lv_aload_n hx hb dX3_reckon_130 rfl (lv_at hl 8 rfl) ?_
                      refine f_0_1 F w (a := 22) rfl tb_231 dX3_reckon_131 ?_
                      refine lv_aload_n hx hb dX3_reckon_134 rfl (lv_at hl 7 rfl) ?_
                      refine f_3_3 F w (a := 109) rfl tb_210 dX3_reckon_135 ?_
                      refine lv_iload hx hb dX3_reckon_138 (lv_at hl 0 rfl) ?_
                      refine g_iald F w (a := 110) rfl (j := (Int.toNat v11_101)) (ix_z (by omega) (by omega)) (by omega) dX3_reckon_140 ?_
                      obtain ⟨z58, bz58, ez58⟩ := Inv.ld (k := (Int.toNat v11_101)) hIN54 (show iv 110 (Int.toNat v11_101) = (0, 5) from rfl) (show 110 < 146 by decide)
                      refine r_val ez58 ?_
                      have hk59 := kd_lst (j := (Int.toNat z58)) (by omega)
                      refine g_aldR F w (a := 24) rfl (j := (Int.toNat z58)) (o := (28 + 2 * (Int.toNat z58))) rfl (ix_z (by omega) (by omega)) (by omega) dX3_reckon_141 ?_
                      refine lv_aload_n hx hb dX3_reckon_142 rfl (lv_at hl 7 rfl) ?_
                      refine f_3_4 F w (a := 109) rfl tb_219 dX3_reckon_143 ?_
                      refine lv_iload hx hb dX3_reckon_146 (lv_at hl 0 rfl) ?_
                      refine lv_iconst (v := zI 1) hx hb dX3_reckon_148 rfl ?_
                      refine z_iadd (z := (v11_101 + 1)) hx hb dX3_reckon_149 (by omega) ?_
                      have hk60 := kd_lev (j := (Int.toNat (v11_101 + 1))) (by omega)
                      refine g_aldW F w (a := 111) rfl (j := (Int.toNat (v11_101 + 1))) (o := (114 + 3 * (Int.toNat (v11_101 + 1)))) rfl (ix_z (by omega) (by omega)) (by omega) dX3_reckon_150 ?_
                      refine k_Vi F w (As := [.ref (B + (28 + 2 * (Int.toNat z58))), .ref (B + (114 + 3 * (Int.toNat (v11_101 + 1))))]) (rest := []) (a := 23) (kd_lt (a := 23) (show kd 23 = (1, 0, 0) from rfl) (by decide)) (sh_1 rfl _ _) rfl (q_X1_perform (u1 := (28 + 2 * (Int.toNat z58))) hk59 (a := (114 + 3 * (Int.toNat (v11_101 + 1)))) hk60  hIN54) gv_X3_72 hv_X1_perform ⟨(Nat.le_of_ble_eq_true rfl), (Nat.le_of_ble_eq_true rfl)⟩ hl.1 rfl (Nat.le_of_ble_eq_true rfl) ⟨Nat.zero_le _, Nat.zero_le _⟩ dX3_reckon_151 (fun r61 N62 H locs hp w => ?_)
                      obtain ⟨z63, rfl, bz63, hIN62, hFN62⟩ := hp
                      have hGN62 := Fr.tr hGN54 hFN62 (S := (fun b9 k9 => (b9 = 109 ∧ k9 = 0) ∨ (b9 = 109 ∧ k9 = 1) ∨ (b9 = 109 ∧ k9 = 2) ∨ (b9 = 23 ∧ k9 = 0) ∨ b9 = 110 ∨ (114 ≤ b9 ∧ b9 ≤ 134))) (fun b k h => by first | omega | (dsimp only at h ⊢; omega))
                      have kn64 : N62.1 22 2 = zI z1 := (hFN62 22 2 (by first | omega | (dsimp only; omega))).trans (kn56)
                      have kn65 : N62.1 109 2 = zI g109_2_83 := (hFN62 109 2 (by first | omega | (dsimp only; omega))).trans (kn57)
                      refine lv_pop hx hb dX3_reckon_154 rfl ?_
                      refine z_iinc (v := (v11_101 + 1)) (lv' := [(11, .int (zI (v11_101 + 1))), (10, .int (zI v10_83)), (9, .int (zI v9_83)), (8, .ref (B + (114 + 3 * (Int.toNat z2)))), (6, .long r6), (4, .long r3), (3, .int (zI z2)), (0, .ref (B + 109)), (1, .ref (B + 22)), (2, .ref (B + a))]) hx hb dX3_reckon_155 hl (k := 0) rfl (by omega) (by decide) rfl (fun ls hl => ?_)
                      refine lv_goto (tgt := 101) hx hb dX3_reckon_158 (by decide) ?_
                      exact ih101 (v11_101 + 1) N62 (by omega)  (kn64) (kn65)  hIN62 hGN62 (by omega) _ _ _ w (lv_sub hl [0, 1, 2, 3, 4, 5, 6, 7, 8, 9] rfl)
                exact lp101 _ v9_83 NL83 (by omega) (eg22_2_83) (eg109_2_83) hIL83 hFL83 (Nat.lt_succ_self _) _ _ _ w (lv_sub hl [0, 1, 2, 3, 4, 5, 6, 7, 8, 9] rfl)
        exact lp83 _ 0 0 0 (st (st N12 109 1 (zI 0)) 109 2 (zI 0)) (by omega) (by omega) (by omega) (st_at) ((st_ne (Or.inl (by decide))).trans ((st_ne (Or.inl (by decide))).trans kn14)) (Inv.to (Inv.to hIN12 (a := 109) (k := 1) (x := 0) (show iv 109 1 = (0, 720) from rfl) (by omega)) (a := 109) (k := 2) (x := 0) (show iv 109 2 = ((-2147483648), 2147483647) from rfl) (by omega)) (Fr.to (Fr.to hGN12 (by first | omega | (dsimp only; first | done | omega))) (by first | omega | (dsimp only; first | done | omega))) (Nat.lt_succ_self _) _ _ _ w (lv_sub hl [0, 1, 2, 3, 4, 5, 6, 7, 8] rfl)
      · refine lv_aload_n hx hb dX3_reckon_39 rfl (lv_at hl 5 rfl) ?_
        refine f_3_3 F w (a := 109) rfl tb_210 dX3_reckon_40 ?_
        refine lv_iload hx hb dX3_reckon_43 (lv_at hl 0 rfl) ?_
        refine lv_iload hx hb dX3_reckon_45 (lv_at hl 0 rfl) ?_
        refine g_iast F w (a := 110) rfl (j := (Int.toNat v9_33)) (ix_z (by omega) (by omega)) (by omega) dX3_reckon_47 (fun H locs w => ?_)
        refine z_iinc (v := (v9_33 + 1)) (lv' := [(9, .int (zI (v9_33 + 1))), (8, .ref (B + (114 + 3 * (Int.toNat z2)))), (6, .long r6), (4, .long r3), (3, .int (zI z2)), (0, .ref (B + 109)), (1, .ref (B + 22)), (2, .ref (B + a))]) hx hb dX3_reckon_48 hl (k := 0) rfl (by omega) (by decide) rfl (fun ls hl => ?_)
        refine lv_goto (tgt := 33) hx hb dX3_reckon_51 (by decide) ?_
        exact ih33 (v9_33 + 1) (st NL33 110 (Int.toNat v9_33) (zI v9_33)) (by omega)  ((st_ne (Or.inl (by decide))).trans eg22_2_33)  (Inv.to hIL33 (a := 110) (k := (Int.toNat v9_33)) (x := v9_33) (show iv 110 (Int.toNat v9_33) = (0, 5) from rfl) (by omega)) (Fr.to hFL33 (by first | omega | (dsimp only; first | done | omega))) (by omega) _ _ _ w (lv_sub hl [0, 1, 2, 3, 4, 5, 6, 7] rfl)
  exact lp33 _ 0 M (by omega) (ez1) hI hF (Nat.lt_succ_self _) _ _ _ w (lv_sub hl [0, 1, 2, 3, 4, 5, 6, 7] rfl)
theorem dX6_layRow_0 : decode cX6_layRow 0 = .ok (.aload_n 0, 1) := dq0 kk_42 (by decide +kernel)
theorem dX6_layRow_1 : decode cX6_layRow 1 = .ok (.getfield 25, 3) := dqV kk_180 (by decide +kernel)
theorem tb_233 : Cond.fieldLink "ToneLines$Sources" 25 "ToneLines$Sources" "row" "LToneLines$Word;" ∈ TB := tbm (tc2 (List.mem_of_getElem? (i := 29) rfl)) rfl
theorem dX6_layRow_4 : decode cX6_layRow 4 = .ok (.invokevirtual 62, 3) := dqV kk_182 (by decide +kernel)
theorem tk_X9_clear : Cond.code yX9_clear cX9_clear 1 none ∈ TB := utk_X9_clear
theorem gc_X9_clear : GoodIn TB (cw yX9_clear cX9_clear 1 none) := goodIn_c2 tk_X9_clear
theorem tb_234 : Cond.methodLink "ToneLines$Sources" 62 yX9_clear ∈ TB := tbm (tc5 (List.mem_of_getElem? (i := 35) rfl)) rfl
theorem tb_235 : Cond.instanceMethod yX9_clear ∈ TB := utb_61
theorem tb_236 : Cond.selects "ToneLines$Word" yX9_clear yX9_clear ∈ TB := utb_62
theorem gv_X6_62 : GoodIn TB (wsV RX6 62 RX9 yX9_clear (cw yX9_clear cX9_clear 1 none)) := goodIn_4 tb_234 tb_235 tb_236 tb_5 gc_X9_clear
theorem hv_X9_clear : yX9_clear.cls = RX9 ∧ yX9_clear.cls ≠ "java/lang/invoke/MethodHandle" ∧ yX9_clear.cls ≠ "java/lang/invoke/VarHandle" ∧ (parseMethodDescriptor yX9_clear.desc).map (fun d => d.parameters.length) = some 0 := uhv_X9_clear
theorem dX6_layRow_7 : decode cX6_layRow 7 = .ok (.aload_n 0, 1) := dq0 kk_42 (by decide +kernel)
theorem dX6_layRow_8 : decode cX6_layRow 8 = .ok (.getfield 25, 3) := dqV kk_180 (by decide +kernel)
theorem dX6_layRow_11 : decode cX6_layRow 11 = .ok (.aload_n 1, 1) := dq0 kk_43 (by decide +kernel)
theorem dX6_layRow_12 : decode cX6_layRow 12 = .ok (.invokevirtual 65, 3) := dqV kk_182 (by decide +kernel)
theorem tb_237 : Cond.methodLink "ToneLines$Sources" 65 yX9_copySyllables ∈ TB := tbm (tc5 (List.mem_of_getElem? (i := 36) rfl)) rfl
theorem gv_X6_65 : GoodIn TB (wsV RX6 65 RX9 yX9_copySyllables (cw yX9_copySyllables cX9_copySyllables 2 none)) := goodIn_4 tb_237 tb_30 tb_31 tb_5 gc_X9_copySyllables
theorem dX6_layRow_15 : decode cX6_layRow 15 = .ok (.iload_n 3, 1) := dq0 kk_29 (by decide +kernel)
theorem dX6_layRow_16 : decode cX6_layRow 16 = .ok (.istore 4, 2) := dqU kk_54 (by decide +kernel)
theorem dX6_layRow_18 : decode cX6_layRow 18 = .ok (.iconst 0, 1) := dq0 kk_3 (by decide +kernel)
theorem dX6_layRow_19 : decode cX6_layRow 19 = .ok (.istore 5, 2) := dqU kk_54 (by decide +kernel)
theorem dX6_layRow_21 : decode cX6_layRow 21 = .ok (.iload 5, 2) := dqU kk_21 (by decide +kernel)
theorem dX6_layRow_23 : decode cX6_layRow 23 = .ok (.iload_n 2, 1) := dq0 kk_28 (by decide +kernel)
theorem dX6_layRow_24 : decode cX6_layRow 24 = .ok (.if_icmp .ge 27, 3) := dqT kk_162 (by decide +kernel)
theorem dX6_layRow_51 : decode cX6_layRow 51 = .ok (.return_, 1) := dq0 kk_177 (by decide +kernel)
theorem dX6_layRow_27 : decode cX6_layRow 27 = .ok (.aload_n 0, 1) := dq0 kk_42 (by decide +kernel)
theorem dX6_layRow_28 : decode cX6_layRow 28 = .ok (.getfield 25, 3) := dqV kk_180 (by decide +kernel)
theorem dX6_layRow_31 : decode cX6_layRow 31 = .ok (.iconst 0, 1) := dq0 kk_3 (by decide +kernel)
theorem dX6_layRow_32 : decode cX6_layRow 32 = .ok (.iload 4, 2) := dqU kk_21 (by decide +kernel)
theorem dX6_layRow_34 : decode cX6_layRow 34 = .ok (.iconst 3, 1) := dq0 kk_6 (by decide +kernel)
theorem dX6_layRow_35 : decode cX6_layRow 35 = .ok (.irem, 1) := dq0 kk_112 (by decide +kernel)
theorem dX6_layRow_36 : decode cX6_layRow 36 = .ok (.invokevirtual 69, 3) := dqV kk_182 (by decide +kernel)
theorem tb_238 : Cond.methodLink "ToneLines$Sources" 69 yX9_insertTone ∈ TB := tbm (tc5 (List.mem_of_getElem? (i := 37) rfl)) rfl
theorem gv_X6_69 : GoodIn TB (wsV RX6 69 RX9 yX9_insertTone (cw yX9_insertTone cX9_insertTone 4 none)) := goodIn_4 tb_238 tb_130 tb_131 tb_5 gc_X9_insertTone
theorem dX6_layRow_39 : decode cX6_layRow 39 = .ok (.iload 4, 2) := dqU kk_21 (by decide +kernel)
theorem dX6_layRow_41 : decode cX6_layRow 41 = .ok (.iconst 3, 1) := dq0 kk_6 (by decide +kernel)
theorem dX6_layRow_42 : decode cX6_layRow 42 = .ok (.idiv, 1) := dq0 kk_108 (by decide +kernel)
theorem dX6_layRow_43 : decode cX6_layRow 43 = .ok (.istore 4, 2) := dqU kk_54 (by decide +kernel)
theorem dX6_layRow_45 : decode cX6_layRow 45 = .ok (.iinc 5 1, 3) := dqI kk_132 (by decide +kernel)
theorem dX6_layRow_48 : decode cX6_layRow 48 = .ok (.goto (-27), 3) := dqT kk_167 (by decide +kernel)
set_option maxRecDepth 4000 in
theorem q_X6_layRow {l : Launch} {D : va_G} {B : Nat} {cy : Nat → ClassId} {M : Mem} {a : Nat} (hka : kd a = (9, 0, 0)) {x : Int} (hx : 0 ≤ x ∧ x ≤ 6) {x1 : Int} (hx1 : 0 ≤ x1 ∧ x1 ≤ 2147483647) (hI : Inv M) : Cv l D B cy yX6_layRow cX6_layRow 6 1 23 [.ref (B + 135), .ref (B + a), .int (zI x), .int (zI x1)] M (fun M1 => Inv M1 ∧ Fr (fun b9 k9 => b9 = 138 ∨ b9 = 139 ∨ b9 = 140) M1 M) := by
  refine s_anyQ (by decide) (Nat.le_of_ble_eq_true rfl) ?_
  intro p e s m args below meth c ls Q F hr hlocks hQ w hl
  have F : CallFix p m c cX6_layRow 6 s args TB RX6 := F
  have hx := F.1
  have hb := F.2.1
  have hl : lv_has ls 6 [(0, .ref (B + 135)), (1, .ref (B + a)), (2, .int (zI x)), (3, .int (zI x1))] := hl
  have hF : Fr (fun b9 k9 => b9 = 138 ∨ b9 = 139 ∨ b9 = 140) M M := Fr.rf
  refine lv_aload_n hx hb dX6_layRow_0 rfl (lv_at hl 0 rfl) ?_
  refine f_6_3 F w (a := 135) rfl tb_233 dX6_layRow_1 ?_
  refine k_Vv F w (As := []) (rest := []) (a := 138) (kd_lt (a := 138) (show kd 138 = (9, 0, 0) from rfl) (by decide)) (sh_9 rfl _ _) rfl (q_X9_clear (a := 138) rfl  hI) gv_X6_62 hv_X9_clear ⟨(Nat.le_of_ble_eq_true rfl), (Nat.le_of_ble_eq_true rfl)⟩ hl.1 rfl (Nat.le_of_ble_eq_true rfl) ⟨Nat.zero_le _, Nat.zero_le _⟩ dX6_layRow_4 (fun N2 H locs hp w => ?_)
  obtain ⟨hIN2, hFN2⟩ := hp
  have hGN2 := Fr.tr hF hFN2 (S := (fun b9 k9 => b9 = 138 ∨ b9 = 139 ∨ b9 = 140)) (fun b k h => by first | omega | (dsimp only at h ⊢; omega))
  refine lv_aload_n hx hb dX6_layRow_7 rfl (lv_at hl 0 rfl) ?_
  refine f_6_3 F w (a := 135) rfl tb_233 dX6_layRow_8 ?_
  refine lv_aload_n hx hb dX6_layRow_11 rfl (lv_at hl 1 rfl) ?_
  refine k_Vv F w (As := [.ref (B + a)]) (rest := []) (a := 138) (kd_lt (a := 138) (show kd 138 = (9, 0, 0) from rfl) (by decide)) (sh_9 rfl _ _) rfl (q_X9_copySyllables (a := 138) rfl (d := a) hka  hIN2) gv_X6_65 hv_X9_copySyllables ⟨(Nat.le_of_ble_eq_true rfl), (Nat.le_of_ble_eq_true rfl)⟩ hl.1 rfl (Nat.le_of_ble_eq_true rfl) ⟨Nat.zero_le _, Nat.zero_le _⟩ dX6_layRow_12 (fun N5 H locs hp w => ?_)
  obtain ⟨hIN5, hFN5⟩ := hp
  have hGN5 := Fr.tr hGN2 hFN5 (S := (fun b9 k9 => b9 = 138 ∨ b9 = 139 ∨ b9 = 140)) (fun b k h => by first | omega | (dsimp only at h ⊢; omega))
  refine lv_iload_n hx hb dX6_layRow_15 rfl (lv_at hl 3 rfl) ?_
  refine lv_istore (lv' := [(4, .int (zI x1)), (0, .ref (B + 135)), (1, .ref (B + a)), (2, .int (zI x)), (3, .int (zI x1))]) hx hb dX6_layRow_16 hl (by decide) rfl (fun ls hl => ?_)
  refine lv_iconst (v := zI 0) hx hb dX6_layRow_18 rfl ?_
  refine lv_istore (lv' := [(5, .int (zI 0)), (4, .int (zI x1)), (0, .ref (B + 135)), (1, .ref (B + a)), (2, .int (zI x)), (3, .int (zI x1))]) hx hb dX6_layRow_19 hl (by decide) rfl (fun ls hl => ?_)
  have lp21 : ∀ (f : Nat) (v5_21 : Int) (v4_21 : Int)  (NL21 : Mem), (0 ≤ v5_21 ∧ v5_21 ≤ 6) → (0 ≤ v4_21 ∧ v4_21 ≤ 2147483647) → Inv NL21 → Fr (fun b9 k9 => b9 = 138 ∨ b9 = 139 ∨ b9 = 140) NL21 M → (Int.toNat (6 - v5_21) < f) → ∀ (H : Heap) (locs : List Loc) (ls : Array Slot), Wd D B cy s s.heap NL21 H locs → lv_has ls 6 [(5, .int (zI v5_21)), (4, .int (zI v4_21)), (0, .ref (B + 135)), (1, .ref (B + a)), (2, .int (zI x)), (3, .int (zI x1))] → W p l e (rmm 1 23) s m args below meth c H locs 0 0 Q (F0 m 21 ls []) := by
    intro f
    induction f with
    | zero => intros; omega
    | succ f ih21 =>
      intro v5_21 v4_21  NL21 iv5_21 iv4_21 hIL21 hFL21 hf21 H locs ls w hl
      refine lv_iload hx hb dX6_layRow_21 (lv_at hl 0 rfl) ?_
      refine lv_iload_n hx hb dX6_layRow_23 rfl (lv_at hl 4 rfl) ?_
      refine z_icmp_ge (tgt := 51) hx hb (by omega) (by omega) dX6_layRow_24 (by decide) (fun c7 => ?_) (fun c7 => ?_)
      · rw [hQ]
        exact e_v F w hr hlocks ⟨hIL21, hFL21⟩ dX6_layRow_51
      · refine lv_aload_n hx hb dX6_layRow_27 rfl (lv_at hl 2 rfl) ?_
        refine f_6_3 F w (a := 135) rfl tb_233 dX6_layRow_28 ?_
        refine lv_iconst (v := zI 0) hx hb dX6_layRow_31 rfl ?_
        refine lv_iload hx hb dX6_layRow_32 (lv_at hl 1 rfl) ?_
        refine lv_iconst (v := zI 3) hx hb dX6_layRow_34 rfl ?_
        refine lv_irem hx hb dX6_layRow_35 (nz_z (by omega) (by omega)) ?_
        obtain ⟨z8, bz8, x0z8, ez8⟩ := rem_ex v4_21 3 (by omega) (by omega)
        refine r_val ez8 ?_
        refine k_Vv F w (As := [.int (zI 0), .int (zI z8)]) (rest := []) (a := 138) (kd_lt (a := 138) (show kd 138 = (9, 0, 0) from rfl) (by decide)) (sh_9 rfl _ _) rfl (q_X9_insertTone (a := 138) rfl (t := 0) (by omega) (x := z8) (by omega)  hIL21) gv_X6_69 hv_X9_insertTone ⟨(Nat.le_of_ble_eq_true rfl), (Nat.le_of_ble_eq_true rfl)⟩ hl.1 rfl (Nat.le_of_ble_eq_true rfl) ⟨Nat.zero_le _, Nat.zero_le _⟩ dX6_layRow_36 (fun N10 H locs hp w => ?_)
        obtain ⟨hIN10, hFN10⟩ := hp
        have hGN10 := Fr.tr hFL21 hFN10 (S := (fun b9 k9 => b9 = 138 ∨ b9 = 139 ∨ b9 = 140)) (fun b k h => by first | omega | (dsimp only at h ⊢; omega))
        refine lv_iload hx hb dX6_layRow_39 (lv_at hl 1 rfl) ?_
        refine lv_iconst (v := zI 3) hx hb dX6_layRow_41 rfl ?_
        refine lv_idiv hx hb dX6_layRow_42 (nz_z (by omega) (by omega)) ?_
        obtain ⟨z12, bz12, x0z12, ez12⟩ := div_ex v4_21 3 (by omega) (by omega)
        refine r_val ez12 ?_
        refine lv_istore (lv' := [(4, .int (zI z12)), (5, .int (zI v5_21)), (0, .ref (B + 135)), (1, .ref (B + a)), (2, .int (zI x)), (3, .int (zI x1))]) hx hb dX6_layRow_43 hl (by decide) rfl (fun ls hl => ?_)
        refine z_iinc (v := (v5_21 + 1)) (lv' := [(5, .int (zI (v5_21 + 1))), (4, .int (zI z12)), (0, .ref (B + 135)), (1, .ref (B + a)), (2, .int (zI x)), (3, .int (zI x1))]) hx hb dX6_layRow_45 hl (k := 1) rfl (by omega) (by decide) rfl (fun ls hl => ?_)
        refine lv_goto (tgt := 21) hx hb dX6_layRow_48 (by decide) ?_
        exact ih21 (v5_21 + 1) z12 N10 (by omega) (by omega)    hIN10 hGN10 (by omega) _ _ _ w (lv_sub hl [0, 1, 2, 3, 4, 5] rfl)
  exact lp21 _ 0 x1 N5 (by omega) (by omega) hIN5 hGN5 (Nat.lt_succ_self _) _ _ _ w (lv_sub hl [0, 1, 2, 3, 4, 5] rfl)
theorem dX6_bring_0 : decode cX6_bring 0 = .ok (.iload_n 3, 1) := dq0 kk_29 (by decide +kernel)
theorem dX6_bring_1 : decode cX6_bring 1 = .ok (.ifCond .lt 20, 3) := dqT kk_155 (by decide +kernel)
theorem dX6_bring_21 : decode cX6_bring 21 = .ok (.return_, 1) := dq0 kk_177 (by decide +kernel)
theorem dX6_bring_4 : decode cX6_bring 4 = .ok (.iload_n 3, 1) := dq0 kk_29 (by decide +kernel)
theorem dX6_bring_5 : decode cX6_bring 5 = .ok (.bipush 6, 2) := dqS kk_16 (by decide +kernel)
theorem dX6_bring_7 : decode cX6_bring 7 = .ok (.if_icmp .gt 14, 3) := dqT kk_163 (by decide +kernel)
theorem dX6_bring_10 : decode cX6_bring 10 = .ok (.aload_n 0, 1) := dq0 kk_42 (by decide +kernel)
theorem dX6_bring_11 : decode cX6_bring 11 = .ok (.getfield 9, 3) := dqV kk_180 (by decide +kernel)
theorem tb_239 : Cond.fieldLink "ToneLines$Sources" 9 "ToneLines$Sources" "known" "I" ∈ TB := tbm (tc2 (List.mem_of_getElem? (i := 23) rfl)) rfl
theorem dX6_bring_14 : decode cX6_bring 14 = .ok (.iload_n 3, 1) := dq0 kk_29 (by decide +kernel)
theorem dX6_bring_15 : decode cX6_bring 15 = .ok (.ishr, 1) := dq0 kk_122 (by decide +kernel)
theorem dX6_bring_16 : decode cX6_bring 16 = .ok (.iconst 1, 1) := dq0 kk_4 (by decide +kernel)
theorem dX6_bring_17 : decode cX6_bring 17 = .ok (.iand, 1) := dq0 kk_126 (by decide +kernel)
theorem dX6_bring_18 : decode cX6_bring 18 = .ok (.ifCond .eq 4, 3) := dqT kk_153 (by decide +kernel)
theorem dX6_bring_22 : decode cX6_bring 22 = .ok (.iconst 1, 1) := dq0 kk_4 (by decide +kernel)
theorem dX6_bring_23 : decode cX6_bring 23 = .ok (.istore 4, 2) := dqU kk_54 (by decide +kernel)
theorem dX6_bring_25 : decode cX6_bring 25 = .ok (.iconst 0, 1) := dq0 kk_3 (by decide +kernel)
theorem dX6_bring_26 : decode cX6_bring 26 = .ok (.istore 5, 2) := dqU kk_54 (by decide +kernel)
theorem dX6_bring_28 : decode cX6_bring 28 = .ok (.iload 5, 2) := dqU kk_21 (by decide +kernel)
theorem dX6_bring_30 : decode cX6_bring 30 = .ok (.iload_n 3, 1) := dq0 kk_29 (by decide +kernel)
theorem dX6_bring_31 : decode cX6_bring 31 = .ok (.if_icmp .ge 15, 3) := dqT kk_162 (by decide +kernel)
theorem dX6_bring_46 : decode cX6_bring 46 = .ok (.aload_n 2, 1) := dq0 kk_44 (by decide +kernel)
theorem dX6_bring_47 : decode cX6_bring 47 = .ok (.invokevirtual 29, 3) := dqV kk_182 (by decide +kernel)
theorem tb_240 : Cond.methodLink "ToneLines$Sources" 29 yX9_kindsRead ∈ TB := tbm (tc5 (List.mem_of_getElem? (i := 29) rfl)) rfl
theorem gv_X6_29 : GoodIn TB (wsV RX6 29 RX9 yX9_kindsRead (cw yX9_kindsRead cX9_kindsRead 5 (some .long))) := goodIn_4 tb_240 tb_106 tb_107 tb_5 gc_X9_kindsRead
theorem dX6_bring_50 : decode cX6_bring 50 = .ok (.lstore 5, 2) := dqU kk_55 (by decide +kernel)
theorem dX6_bring_52 : decode cX6_bring 52 = .ok (.aload_n 2, 1) := dq0 kk_44 (by decide +kernel)
theorem dX6_bring_53 : decode cX6_bring 53 = .ok (.invokevirtual 33, 3) := dqV kk_182 (by decide +kernel)
theorem tb_241 : Cond.methodLink "ToneLines$Sources" 33 yX9_linesRead ∈ TB := tbm (tc5 (List.mem_of_getElem? (i := 30) rfl)) rfl
theorem gv_X6_33 : GoodIn TB (wsV RX6 33 RX9 yX9_linesRead (cw yX9_linesRead cX9_linesRead 5 (some .long))) := goodIn_4 tb_241 tb_109 tb_110 tb_5 gc_X9_linesRead
theorem dX6_bring_56 : decode cX6_bring 56 = .ok (.lstore 7, 2) := dqU kk_55 (by decide +kernel)
theorem dX6_bring_58 : decode cX6_bring 58 = .ok (.aload_n 0, 1) := dq0 kk_42 (by decide +kernel)
theorem dX6_bring_59 : decode cX6_bring 59 = .ok (.getfield 15, 3) := dqV kk_180 (by decide +kernel)
theorem tb_242 : Cond.fieldLink "ToneLines$Sources" 15 "ToneLines$Sources" "counts" "[I" ∈ TB := tbm (tc2 (List.mem_of_getElem? (i := 25) rfl)) rfl
theorem dX6_bring_62 : decode cX6_bring 62 = .ok (.iload_n 3, 1) := dq0 kk_29 (by decide +kernel)
theorem dX6_bring_63 : decode cX6_bring 63 = .ok (.iconst 0, 1) := dq0 kk_3 (by decide +kernel)
theorem dX6_bring_64 : decode cX6_bring 64 = .ok (.iastore, 1) := dq0 kk_79 (by decide +kernel)
theorem dX6_bring_65 : decode cX6_bring 65 = .ok (.aload_n 0, 1) := dq0 kk_42 (by decide +kernel)
theorem dX6_bring_66 : decode cX6_bring 66 = .ok (.getfield 19, 3) := dqV kk_180 (by decide +kernel)
theorem tb_243 : Cond.fieldLink "ToneLines$Sources" 19 "ToneLines$Sources" "firsts" "[I" ∈ TB := tbm (tc2 (List.mem_of_getElem? (i := 27) rfl)) rfl
theorem dX6_bring_69 : decode cX6_bring 69 = .ok (.iload_n 3, 1) := dq0 kk_29 (by decide +kernel)
theorem dX6_bring_70 : decode cX6_bring 70 = .ok (.bipush (-2), 2) := dqS kk_16 (by decide +kernel)
theorem dX6_bring_72 : decode cX6_bring 72 = .ok (.iastore, 1) := dq0 kk_79 (by decide +kernel)
theorem dX6_bring_73 : decode cX6_bring 73 = .ok (.iconst 0, 1) := dq0 kk_3 (by decide +kernel)
theorem dX6_bring_74 : decode cX6_bring 74 = .ok (.istore 9, 2) := dqU kk_54 (by decide +kernel)
theorem dX6_bring_76 : decode cX6_bring 76 = .ok (.iload 9, 2) := dqU kk_21 (by decide +kernel)
theorem dX6_bring_78 : decode cX6_bring 78 = .ok (.iload 4, 2) := dqU kk_21 (by decide +kernel)
theorem dX6_bring_80 : decode cX6_bring 80 = .ok (.if_icmp .ge 119, 3) := dqT kk_162 (by decide +kernel)
theorem dX6_bring_83 : decode cX6_bring 83 = .ok (.aload_n 0, 1) := dq0 kk_42 (by decide +kernel)
theorem dX6_bring_84 : decode cX6_bring 84 = .ok (.aload_n 1, 1) := dq0 kk_43 (by decide +kernel)
theorem dX6_bring_85 : decode cX6_bring 85 = .ok (.getfield 36, 3) := dqV kk_180 (by decide +kernel)
theorem tb_244 : Cond.fieldLink "ToneLines$Sources" 36 "ToneLines$Derivation" "told" "LToneLines$Word;" ∈ TB := tbm (tc1 (List.mem_of_getElem? (i := 178) rfl)) rfl
theorem dX6_bring_88 : decode cX6_bring 88 = .ok (.iload_n 3, 1) := dq0 kk_29 (by decide +kernel)
theorem dX6_bring_89 : decode cX6_bring 89 = .ok (.iload 9, 2) := dqU kk_21 (by decide +kernel)
theorem dX6_bring_91 : decode cX6_bring 91 = .ok (.invokevirtual 41, 3) := dqV kk_182 (by decide +kernel)
theorem tk_X6_layRow : Cond.code yX6_layRow cX6_layRow 6 none ∈ TB := tbm (tc5 (List.mem_of_getElem? (i := 34) rfl)) rfl
theorem gc_X6_layRow : GoodIn TB (cw yX6_layRow cX6_layRow 6 none) := goodIn_c2 tk_X6_layRow
theorem tb_245 : Cond.methodLink "ToneLines$Sources" 41 yX6_layRow ∈ TB := tbm (tc5 (List.mem_of_getElem? (i := 31) rfl)) rfl
theorem tb_246 : Cond.instanceMethod yX6_layRow ∈ TB := tbm (tc5 (List.mem_of_getElem? (i := 33) rfl)) rfl
theorem tb_247 : Cond.selects "ToneLines$Sources" yX6_layRow yX6_layRow ∈ TB := tbp (List.mem_of_getElem? (i := 36) rfl) rfl
theorem tb_248 : Cond.initialized "ToneLines$Sources" ∈ TB := tbm (tc1 (List.mem_of_getElem? (i := 11) rfl)) rfl
theorem gv_X6_41 : GoodIn TB (wsV RX6 41 RX6 yX6_layRow (cw yX6_layRow cX6_layRow 6 none)) := goodIn_4 tb_245 tb_246 tb_247 tb_248 gc_X6_layRow
theorem hv_X6_layRow : yX6_layRow.cls = RX6 ∧ yX6_layRow.cls ≠ "java/lang/invoke/MethodHandle" ∧ yX6_layRow.cls ≠ "java/lang/invoke/VarHandle" ∧ (parseMethodDescriptor yX6_layRow.desc).map (fun d => d.parameters.length) = some 3 := by decide +kernel
theorem dX6_bring_94 : decode cX6_bring 94 = .ok (.iconst 0, 1) := dq0 kk_3 (by decide +kernel)
theorem dX6_bring_95 : decode cX6_bring 95 = .ok (.istore 10, 2) := dqU kk_54 (by decide +kernel)
theorem dX6_bring_97 : decode cX6_bring 97 = .ok (.iload 10, 2) := dqU kk_21 (by decide +kernel)
theorem dX6_bring_99 : decode cX6_bring 99 = .ok (.aload_n 1, 1) := dq0 kk_43 (by decide +kernel)
theorem dX6_bring_100 : decode cX6_bring 100 = .ok (.getfield 45, 3) := dqV kk_180 (by decide +kernel)
theorem tb_249 : Cond.fieldLink "ToneLines$Sources" 45 "ToneLines$Derivation" "size" "I" ∈ TB := tbm (tc1 (List.mem_of_getElem? (i := 172) rfl)) rfl
theorem dX6_bring_103 : decode cX6_bring 103 = .ok (.if_icmp .ge 28, 3) := dqT kk_162 (by decide +kernel)
theorem dX6_bring_131 : decode cX6_bring 131 = .ok (.aload_n 0, 1) := dq0 kk_42 (by decide +kernel)
theorem dX6_bring_132 : decode cX6_bring 132 = .ok (.getfield 25, 3) := dqV kk_180 (by decide +kernel)
theorem dX6_bring_135 : decode cX6_bring 135 = .ok (.invokevirtual 29, 3) := dqV kk_182 (by decide +kernel)
theorem dX6_bring_138 : decode cX6_bring 138 = .ok (.lload 5, 2) := dqU kk_22 (by decide +kernel)
theorem dX6_bring_140 : decode cX6_bring 140 = .ok (.lcmp, 1) := dq0 kk_148 (by decide +kernel)
theorem dX6_bring_141 : decode cX6_bring 141 = .ok (.ifCond .ne 52, 3) := dqT kk_154 (by decide +kernel)
theorem dX6_bring_193 : decode cX6_bring 193 = .ok (.iinc 9 1, 3) := dqI kk_132 (by decide +kernel)
theorem dX6_bring_196 : decode cX6_bring 196 = .ok (.goto (-120), 3) := dqT kk_167 (by decide +kernel)
theorem dX6_bring_144 : decode cX6_bring 144 = .ok (.aload_n 0, 1) := dq0 kk_42 (by decide +kernel)
theorem dX6_bring_145 : decode cX6_bring 145 = .ok (.getfield 25, 3) := dqV kk_180 (by decide +kernel)
theorem dX6_bring_148 : decode cX6_bring 148 = .ok (.invokevirtual 33, 3) := dqV kk_182 (by decide +kernel)
theorem dX6_bring_151 : decode cX6_bring 151 = .ok (.lload 7, 2) := dqU kk_22 (by decide +kernel)
theorem dX6_bring_153 : decode cX6_bring 153 = .ok (.lcmp, 1) := dq0 kk_148 (by decide +kernel)
theorem dX6_bring_154 : decode cX6_bring 154 = .ok (.ifCond .ne 39, 3) := dqT kk_154 (by decide +kernel)
theorem dX6_bring_157 : decode cX6_bring 157 = .ok (.aload_n 0, 1) := dq0 kk_42 (by decide +kernel)
theorem dX6_bring_158 : decode cX6_bring 158 = .ok (.getfield 19, 3) := dqV kk_180 (by decide +kernel)
theorem dX6_bring_161 : decode cX6_bring 161 = .ok (.iload_n 3, 1) := dq0 kk_29 (by decide +kernel)
theorem dX6_bring_162 : decode cX6_bring 162 = .ok (.aload_n 0, 1) := dq0 kk_42 (by decide +kernel)
theorem dX6_bring_163 : decode cX6_bring 163 = .ok (.getfield 15, 3) := dqV kk_180 (by decide +kernel)
theorem dX6_bring_166 : decode cX6_bring 166 = .ok (.iload_n 3, 1) := dq0 kk_29 (by decide +kernel)
theorem dX6_bring_167 : decode cX6_bring 167 = .ok (.iaload, 1) := dq0 kk_46 (by decide +kernel)
theorem dX6_bring_168 : decode cX6_bring 168 = .ok (.ifCond .ne 8, 3) := dqT kk_154 (by decide +kernel)
theorem dX6_bring_176 : decode cX6_bring 176 = .ok (.aload_n 0, 1) := dq0 kk_42 (by decide +kernel)
theorem dX6_bring_177 : decode cX6_bring 177 = .ok (.getfield 19, 3) := dqV kk_180 (by decide +kernel)
theorem dX6_bring_180 : decode cX6_bring 180 = .ok (.iload_n 3, 1) := dq0 kk_29 (by decide +kernel)
theorem dX6_bring_181 : decode cX6_bring 181 = .ok (.iaload, 1) := dq0 kk_46 (by decide +kernel)
theorem dX6_bring_182 : decode cX6_bring 182 = .ok (.iastore, 1) := dq0 kk_79 (by decide +kernel)
theorem dX6_bring_183 : decode cX6_bring 183 = .ok (.aload_n 0, 1) := dq0 kk_42 (by decide +kernel)
theorem dX6_bring_184 : decode cX6_bring 184 = .ok (.getfield 15, 3) := dqV kk_180 (by decide +kernel)
theorem dX6_bring_187 : decode cX6_bring 187 = .ok (.iload_n 3, 1) := dq0 kk_29 (by decide +kernel)
theorem dX6_bring_188 : decode cX6_bring 188 = .ok (.dup2, 1) := dq0 kk_92 (by decide +kernel)
theorem dX6_bring_189 : decode cX6_bring 189 = .ok (.iaload, 1) := dq0 kk_46 (by decide +kernel)
theorem dX6_bring_190 : decode cX6_bring 190 = .ok (.iconst 1, 1) := dq0 kk_4 (by decide +kernel)
theorem dX6_bring_191 : decode cX6_bring 191 = .ok (.iadd, 1) := dq0 kk_96 (by decide +kernel)
theorem dX6_bring_192 : decode cX6_bring 192 = .ok (.iastore, 1) := dq0 kk_79 (by decide +kernel)
theorem dX6_bring_171 : decode cX6_bring 171 = .ok (.iload 9, 2) := dqU kk_21 (by decide +kernel)
theorem dX6_bring_173 : decode cX6_bring 173 = .ok (.goto 9, 3) := dqT kk_167 (by decide +kernel)
theorem dX6_bring_106 : decode cX6_bring 106 = .ok (.aload_n 1, 1) := dq0 kk_43 (by decide +kernel)
theorem dX6_bring_107 : decode cX6_bring 107 = .ok (.getfield 48, 3) := dqV kk_180 (by decide +kernel)
theorem tb_250 : Cond.fieldLink "ToneLines$Sources" 48 "ToneLines$Derivation" "doer" "LToneLines$Doer;" ∈ TB := tbm (tc1 (List.mem_of_getElem? (i := 163) rfl)) rfl
theorem dX6_bring_110 : decode cX6_bring 110 = .ok (.aload_n 1, 1) := dq0 kk_43 (by decide +kernel)
theorem dX6_bring_111 : decode cX6_bring 111 = .ok (.getfield 52, 3) := dqV kk_180 (by decide +kernel)
theorem tb_251 : Cond.fieldLink "ToneLines$Sources" 52 "ToneLines$Derivation" "list" "[LToneLines$Rule;" ∈ TB := tbm (tc1 (List.mem_of_getElem? (i := 167) rfl)) rfl
theorem dX6_bring_114 : decode cX6_bring 114 = .ok (.iload 10, 2) := dqU kk_21 (by decide +kernel)
theorem dX6_bring_116 : decode cX6_bring 116 = .ok (.aaload, 1) := dq0 kk_50 (by decide +kernel)
theorem dX6_bring_117 : decode cX6_bring 117 = .ok (.aload_n 0, 1) := dq0 kk_42 (by decide +kernel)
theorem dX6_bring_118 : decode cX6_bring 118 = .ok (.getfield 25, 3) := dqV kk_180 (by decide +kernel)
theorem dX6_bring_121 : decode cX6_bring 121 = .ok (.invokevirtual 56, 3) := dqV kk_182 (by decide +kernel)
theorem tb_252 : Cond.methodLink "ToneLines$Sources" 56 yX1_perform ∈ TB := tbm (tc5 (List.mem_of_getElem? (i := 38) rfl)) rfl
theorem gv_X6_56 : GoodIn TB (wsV RX6 56 RX1 yX1_perform (cw yX1_perform cX1_perform 6 (some .int))) := goodIn_4 tb_252 tb_196 tb_197 tb_76 gc_X1_perform
theorem dX6_bring_124 : decode cX6_bring 124 = .ok (.pop, 1) := dq0 kk_87 (by decide +kernel)
theorem dX6_bring_125 : decode cX6_bring 125 = .ok (.iinc 10 1, 3) := dqI kk_132 (by decide +kernel)
theorem dX6_bring_128 : decode cX6_bring 128 = .ok (.goto (-31), 3) := dqT kk_167 (by decide +kernel)
theorem dX6_bring_199 : decode cX6_bring 199 = .ok (.aload_n 0, 1) := dq0 kk_42 (by decide +kernel)
theorem dX6_bring_200 : decode cX6_bring 200 = .ok (.dup, 1) := dq0 kk_89 (by decide +kernel)
theorem dX6_bring_201 : decode cX6_bring 201 = .ok (.getfield 9, 3) := dqV kk_180 (by decide +kernel)
theorem dX6_bring_204 : decode cX6_bring 204 = .ok (.iconst 1, 1) := dq0 kk_4 (by decide +kernel)
theorem dX6_bring_205 : decode cX6_bring 205 = .ok (.iload_n 3, 1) := dq0 kk_29 (by decide +kernel)
theorem dX6_bring_206 : decode cX6_bring 206 = .ok (.ishl, 1) := dq0 kk_120 (by decide +kernel)
theorem dX6_bring_207 : decode cX6_bring 207 = .ok (.ior, 1) := dq0 kk_128 (by decide +kernel)
theorem dX6_bring_208 : decode cX6_bring 208 = .ok (.putfield 9, 3) := dqV kk_181 (by decide +kernel)
theorem dX6_bring_211 : decode cX6_bring 211 = .ok (.return_, 1) := dq0 kk_177 (by decide +kernel)
theorem dX6_bring_34 : decode cX6_bring 34 = .ok (.iload 4, 2) := dqU kk_21 (by decide +kernel)
theorem dX6_bring_36 : decode cX6_bring 36 = .ok (.iconst 3, 1) := dq0 kk_6 (by decide +kernel)
theorem dX6_bring_37 : decode cX6_bring 37 = .ok (.imul, 1) := dq0 kk_104 (by decide +kernel)
theorem dX6_bring_38 : decode cX6_bring 38 = .ok (.istore 4, 2) := dqU kk_54 (by decide +kernel)
theorem dX6_bring_40 : decode cX6_bring 40 = .ok (.iinc 5 1, 3) := dqI kk_132 (by decide +kernel)
theorem dX6_bring_43 : decode cX6_bring 43 = .ok (.goto (-15), 3) := dqT kk_167 (by decide +kernel)
set_option maxRecDepth 4000 in
theorem q_X6_bring {l : Launch} {D : va_G} {B : Nat} {cy : Nat → ClassId} {M : Mem} {a : Nat} (hka : kd a = (9, 0, 0)) {x : Int} (hx : (-2147483648) ≤ x ∧ x ≤ 2147483647) (hI : Inv M) : Cv l D B cy yX6_bring cX6_bring 11 5 133 [.ref (B + 135), .ref (B + 22), .ref (B + a), .int (zI x)] M (fun M1 => Inv M1 ∧ Fr (fun b9 k9 => (b9 = 23 ∧ k9 = 0) ∨ b9 = 135 ∨ b9 = 136 ∨ b9 = 137 ∨ b9 = 138 ∨ b9 = 139 ∨ b9 = 140) M1 M) := by
  refine s_anyQ (by decide) (Nat.le_of_ble_eq_true rfl) ?_
  intro p e s m args below meth c ls Q F hr hlocks hQ w hl
  have F : CallFix p m c cX6_bring 11 s args TB RX6 := F
  have hx := F.1
  have hb := F.2.1
  have hl : lv_has ls 11 [(0, .ref (B + 135)), (1, .ref (B + 22)), (2, .ref (B + a)), (3, .int (zI x))] := hl
  have hF : Fr (fun b9 k9 => (b9 = 23 ∧ k9 = 0) ∨ b9 = 135 ∨ b9 = 136 ∨ b9 = 137 ∨ b9 = 138 ∨ b9 = 139 ∨ b9 = 140) M M := Fr.rf
  refine lv_iload_n hx hb dX6_bring_0 rfl (lv_at hl 3 rfl) ?_
  refine z_if_lt (tgt := 21) hx hb (by omega) dX6_bring_1 (by decide) (fun c1 => ?_) (fun c1 => ?_)
  · rw [hQ]
    exact e_v F w hr hlocks ⟨hI, hF⟩ dX6_bring_21
  · refine lv_iload_n hx hb dX6_bring_4 rfl (lv_at hl 3 rfl) ?_
    refine lv_bipush (v := zI 6) hx hb dX6_bring_5 (by decide) ?_
    refine z_icmp_gt (tgt := 21) hx hb (by omega) (by omega) dX6_bring_7 (by decide) (fun c2 => ?_) (fun c2 => ?_)
    · rw [hQ]
      exact e_v F w hr hlocks ⟨hI, hF⟩ dX6_bring_21
    · refine lv_aload_n hx hb dX6_bring_10 rfl (lv_at hl 0 rfl) ?_
      refine f_6_0 F w (a := 135) rfl tb_239 dX6_bring_11 ?_
      obtain ⟨z3, bz3, ez3⟩ := Inv.ld (k := 0) hI (show iv 135 0 = ((-2147483648), 2147483647) from rfl) (show 135 < 146 by decide)
      refine r_val ez3 ?_
      refine lv_iload_n hx hb dX6_bring_14 rfl (lv_at hl 3 rfl) ?_
      obtain ⟨z4, bz4, x0z4, ez4⟩ := shr_ex z3 x (by omega)
      refine lv_ishr hx hb dX6_bring_15 ?_
      refine r_val ez4 ?_
      refine lv_iconst (v := zI 1) hx hb dX6_bring_16 rfl ?_
      obtain ⟨z5, bz5, x0z5, x1z5, ez5⟩ := and_ex z4 1 (by omega) (by omega)
      refine lv_iand hx hb dX6_bring_17 ?_
      refine r_val ez5 ?_
      refine z_if_eq (tgt := 22) hx hb (by omega) dX6_bring_18 (by decide) (fun c6 => ?_) (fun c6 => ?_)
      · refine lv_iconst (v := zI 1) hx hb dX6_bring_22 rfl ?_
        refine lv_istore (lv' := [(4, .int (zI 1)), (0, .ref (B + 135)), (1, .ref (B + 22)), (2, .ref (B + a)), (3, .int (zI x))]) hx hb dX6_bring_23 hl (by decide) rfl (fun ls hl => ?_)
        refine lv_iconst (v := zI 0) hx hb dX6_bring_25 rfl ?_
        refine lv_istore (lv' := [(5, .int (zI 0)), (4, .int (zI 1)), (0, .ref (B + 135)), (1, .ref (B + 22)), (2, .ref (B + a)), (3, .int (zI x))]) hx hb dX6_bring_26 hl (by decide) rfl (fun ls hl => ?_)
        have lp28 : ∀ (f : Nat) (v5_28 : Int) (v4_28 : Int), (0 ≤ v5_28 ∧ v5_28 ≤ 6) → ((-2147483648) ≤ v4_28 ∧ v4_28 ≤ 2147483647) → (Int.toNat (6 - v5_28) < f) → ∀ (H : Heap) (locs : List Loc) (ls : Array Slot), Wd D B cy s s.heap M H locs → lv_has ls 11 [(5, .int (zI v5_28)), (4, .int (zI v4_28)), (0, .ref (B + 135)), (1, .ref (B + 22)), (2, .ref (B + a)), (3, .int (zI x))] → W p l e (rmm 5 133) s m args below meth c H locs 0 0 Q (F0 m 28 ls []) := by
          intro f
          induction f with
          | zero => intros; omega
          | succ f ih28 =>
            intro v5_28 v4_28  iv5_28 iv4_28 hf28 H locs ls w hl
            refine lv_iload hx hb dX6_bring_28 (lv_at hl 0 rfl) ?_
            refine lv_iload_n hx hb dX6_bring_30 rfl (lv_at hl 5 rfl) ?_
            refine z_icmp_ge (tgt := 46) hx hb (by omega) (by omega) dX6_bring_31 (by decide) (fun c7 => ?_) (fun c7 => ?_)
            · refine lv_aload_n hx hb dX6_bring_46 rfl (lv_at hl 4 rfl) ?_
              refine k_Vl F w (As := []) (rest := []) (a := a) (kd_lt (a := a) hka (by decide)) (sh_9 hka _ _) rfl (q_X9_kindsRead (a := a) hka  hI) gv_X6_29 hv_X9_kindsRead ⟨(Nat.le_of_ble_eq_true rfl), (Nat.le_of_ble_eq_true rfl)⟩ hl.1 rfl (Nat.le_of_ble_eq_true rfl) ⟨Nat.zero_le _, Nat.zero_le _⟩ dX6_bring_47 (fun r8 N9 H locs hp w => ?_)
              rw [hp] at w
              refine lv_lstore (lv' := [(5, .long r8), (4, .int (zI v4_28)), (0, .ref (B + 135)), (1, .ref (B + 22)), (2, .ref (B + a)), (3, .int (zI x))]) hx hb dX6_bring_50 hl (by decide) rfl (fun ls hl => ?_)
              refine lv_aload_n hx hb dX6_bring_52 rfl (lv_at hl 4 rfl) ?_
              refine k_Vl F w (As := []) (rest := []) (a := a) (kd_lt (a := a) hka (by decide)) (sh_9 hka _ _) rfl (q_X9_linesRead (a := a) hka  hI) gv_X6_33 hv_X9_linesRead ⟨(Nat.le_of_ble_eq_true rfl), (Nat.le_of_ble_eq_true rfl)⟩ hl.1 rfl (Nat.le_of_ble_eq_true rfl) ⟨Nat.zero_le _, Nat.zero_le _⟩ dX6_bring_53 (fun r11 N12 H locs hp w => ?_)
              rw [hp] at w
              refine lv_lstore (lv' := [(7, .long r11), (5, .long r8), (4, .int (zI v4_28)), (0, .ref (B + 135)), (1, .ref (B + 22)), (2, .ref (B + a)), (3, .int (zI x))]) hx hb dX6_bring_56 hl (by decide) rfl (fun ls hl => ?_)
              refine lv_aload_n hx hb dX6_bring_58 rfl (lv_at hl 3 rfl) ?_
              refine f_6_1 F w (a := 135) rfl tb_242 dX6_bring_59 ?_
              refine lv_iload_n hx hb dX6_bring_62 rfl (lv_at hl 6 rfl) ?_
              refine lv_iconst (v := zI 0) hx hb dX6_bring_63 rfl ?_
              refine g_iast F w (a := 136) rfl (j := (Int.toNat x)) (ix_z (by omega) (by omega)) (by omega) dX6_bring_64 (fun H locs w => ?_)
              refine lv_aload_n hx hb dX6_bring_65 rfl (lv_at hl 3 rfl) ?_
              refine f_6_2 F w (a := 135) rfl tb_243 dX6_bring_66 ?_
              refine lv_iload_n hx hb dX6_bring_69 rfl (lv_at hl 6 rfl) ?_
              refine lv_bipush (v := zI (-2)) hx hb dX6_bring_70 (by decide) ?_
              refine g_iast F w (a := 137) rfl (j := (Int.toNat x)) (ix_z (by omega) (by omega)) (by omega) dX6_bring_72 (fun H locs w => ?_)
              refine lv_iconst (v := zI 0) hx hb dX6_bring_73 rfl ?_
              refine lv_istore (lv' := [(9, .int (zI 0)), (7, .long r11), (5, .long r8), (4, .int (zI v4_28)), (0, .ref (B + 135)), (1, .ref (B + 22)), (2, .ref (B + a)), (3, .int (zI x))]) hx hb dX6_bring_74 hl (by decide) rfl (fun ls hl => ?_)
              have lp76 : ∀ (f : Nat) (v9_76 : Int)  (NL76 : Mem), (0 ≤ v9_76 ∧ v9_76 ≤ 2147483647) → Inv NL76 → Fr (fun b9 k9 => (b9 = 23 ∧ k9 = 0) ∨ b9 = 135 ∨ b9 = 136 ∨ b9 = 137 ∨ b9 = 138 ∨ b9 = 139 ∨ b9 = 140) NL76 M → (Int.toNat (v4_28 - v9_76) < f) → ∀ (H : Heap) (locs : List Loc) (ls : Array Slot), Wd D B cy s s.heap NL76 H locs → lv_has ls 11 [(9, .int (zI v9_76)), (7, .long r11), (5, .long r8), (4, .int (zI v4_28)), (0, .ref (B + 135)), (1, .ref (B + 22)), (2, .ref (B + a)), (3, .int (zI x))] → W p l e (rmm 5 133) s m args below meth c H locs 0 0 Q (F0 m 76 ls []) := by
                intro f
                induction f with
                | zero => intros; omega
                | succ f ih76 =>
                  intro v9_76  NL76 iv9_76 hIL76 hFL76 hf76 H locs ls w hl
                  refine lv_iload hx hb dX6_bring_76 (lv_at hl 0 rfl) ?_
                  refine lv_iload hx hb dX6_bring_78 (lv_at hl 3 rfl) ?_
                  refine z_icmp_ge (tgt := 199) hx hb (by omega) (by omega) dX6_bring_80 (by decide) (fun c14 => ?_) (fun c14 => ?_)
                  · refine lv_aload_n hx hb dX6_bring_199 rfl (lv_at hl 4 rfl) ?_
                    refine lv_dup hx hb dX6_bring_200 rfl ?_
                    refine f_6_0 F w (a := 135) rfl tb_239 dX6_bring_201 ?_
                    obtain ⟨z15, bz15, ez15⟩ := Inv.ld (k := 0) hIL76 (show iv 135 0 = ((-2147483648), 2147483647) from rfl) (show 135 < 146 by decide)
                    refine r_val ez15 ?_
                    refine lv_iconst (v := zI 1) hx hb dX6_bring_204 rfl ?_
                    refine lv_iload_n hx hb dX6_bring_205 rfl (lv_at hl 7 rfl) ?_
                    obtain ⟨z16, bz16, x0z16, ez16⟩ := shl_ex 1 x
                    refine lv_ishl hx hb dX6_bring_206 ?_
                    refine r_val ez16 ?_
                    obtain ⟨z17, bz17, x0z17, ez17⟩ := or_ex z15 z16
                    refine lv_ior hx hb dX6_bring_207 ?_
                    refine r_val ez17 ?_
                    refine u_6_0 F w (a := 135) rfl tb_239 dX6_bring_208 (fun H locs w => ?_)
                    rw [hQ]
                    exact e_v F w hr hlocks ⟨(Inv.to hIL76 (a := 135) (k := 0) (x := z17) (show iv 135 0 = ((-2147483648), 2147483647) from rfl) (by omega)), (Fr.to hFL76 (by first | omega | (dsimp only; first | done | omega)))⟩ dX6_bring_211
                  · refine lv_aload_n hx hb dX6_bring_83 rfl (lv_at hl 4 rfl) ?_
                    refine lv_aload_n hx hb dX6_bring_84 rfl (lv_at hl 5 rfl) ?_
                    refine f_0_4 F w (a := 22) rfl tb_244 dX6_bring_85 ?_
                    refine lv_iload_n hx hb dX6_bring_88 rfl (lv_at hl 7 rfl) ?_
                    refine lv_iload hx hb dX6_bring_89 (lv_at hl 0 rfl) ?_
                    refine k_Vv F w (As := [.ref (B + 44), .int (zI x), .int (zI v9_76)]) (rest := []) (a := 135) (kd_lt (a := 135) (show kd 135 = (6, 0, 0) from rfl) (by decide)) (sh_6 rfl _ _) rfl (q_X6_layRow (a := 44) rfl (x := x) (by omega) (x1 := v9_76) (by omega)  hIL76) gv_X6_41 hv_X6_layRow ⟨(Nat.le_of_ble_eq_true rfl), (Nat.le_of_ble_eq_true rfl)⟩ hl.1 rfl (Nat.le_of_ble_eq_true rfl) ⟨Nat.zero_le _, Nat.zero_le _⟩ dX6_bring_91 (fun N19 H locs hp w => ?_)
                    obtain ⟨hIN19, hFN19⟩ := hp
                    have hGN19 := Fr.tr hFL76 hFN19 (S := (fun b9 k9 => (b9 = 23 ∧ k9 = 0) ∨ b9 = 135 ∨ b9 = 136 ∨ b9 = 137 ∨ b9 = 138 ∨ b9 = 139 ∨ b9 = 140)) (fun b k h => by first | omega | (dsimp only at h ⊢; omega))
                    refine lv_iconst (v := zI 0) hx hb dX6_bring_94 rfl ?_
                    refine lv_istore (lv' := [(10, .int (zI 0)), (9, .int (zI v9_76)), (7, .long r11), (5, .long r8), (4, .int (zI v4_28)), (0, .ref (B + 135)), (1, .ref (B + 22)), (2, .ref (B + a)), (3, .int (zI x))]) hx hb dX6_bring_95 hl (by decide) rfl (fun ls hl => ?_)
                    have lp97 : ∀ (f : Nat) (v10_97 : Int)  (NL97 : Mem), (0 ≤ v10_97 ∧ v10_97 ≤ 8) → Inv NL97 → Fr (fun b9 k9 => (b9 = 23 ∧ k9 = 0) ∨ b9 = 135 ∨ b9 = 136 ∨ b9 = 137 ∨ b9 = 138 ∨ b9 = 139 ∨ b9 = 140) NL97 M → (Int.toNat (8 - v10_97) < f) → ∀ (H : Heap) (locs : List Loc) (ls : Array Slot), Wd D B cy s s.heap NL97 H locs → lv_has ls 11 [(10, .int (zI v10_97)), (9, .int (zI v9_76)), (7, .long r11), (5, .long r8), (4, .int (zI v4_28)), (0, .ref (B + 135)), (1, .ref (B + 22)), (2, .ref (B + a)), (3, .int (zI x))] → W p l e (rmm 5 133) s m args below meth c H locs 0 0 Q (F0 m 97 ls []) := by
                      intro f
                      induction f with
                      | zero => intros; omega
                      | succ f ih97 =>
                        intro v10_97  NL97 iv10_97 hIL97 hFL97 hf97 H locs ls w hl
                        refine lv_iload hx hb dX6_bring_97 (lv_at hl 0 rfl) ?_
                        refine lv_aload_n hx hb dX6_bring_99 rfl (lv_at hl 6 rfl) ?_
                        refine f_0_2 F w (a := 22) rfl tb_249 dX6_bring_100 ?_
                        obtain ⟨z21, bz21, ez21⟩ := Inv.ld (k := 2) hIL97 (show iv 22 2 = (0, 8) from rfl) (show 22 < 146 by decide)
                        refine r_val ez21 ?_
                        refine z_icmp_ge (tgt := 131) hx hb (by omega) (by omega) dX6_bring_103 (by decide) (fun c22 => ?_) (fun c22 => ?_)
                        · refine lv_aload_n hx hb dX6_bring_131 rfl (lv_at hl 5 rfl) ?_
                          refine f_6_3 F w (a := 135) rfl tb_233 dX6_bring_132 ?_
                          refine k_Vl F w (As := []) (rest := []) (a := 138) (kd_lt (a := 138) (show kd 138 = (9, 0, 0) from rfl) (by decide)) (sh_9 rfl _ _) rfl (q_X9_kindsRead (a := 138) rfl  hIL97) gv_X6_29 hv_X9_kindsRead ⟨(Nat.le_of_ble_eq_true rfl), (Nat.le_of_ble_eq_true rfl)⟩ hl.1 rfl (Nat.le_of_ble_eq_true rfl) ⟨Nat.zero_le _, Nat.zero_le _⟩ dX6_bring_135 (fun r23 N24 H locs hp w => ?_)
                          rw [hp] at w
                          refine lv_lload hx hb dX6_bring_138 (lv_at hl 3 rfl) ?_
                          refine W.lcmp hx hb dX6_bring_140 ?_
                          refine lv_topi (fun u26 eu26 => ?_)
                          obtain ⟨z27, bz27, rfl⟩ := rg_ex u26
                          refine z_if_ne (tgt := 193) hx hb (by omega) dX6_bring_141 (by decide) (fun c28 => ?_) (fun c28 => ?_)
                          · refine z_iinc (v := (v9_76 + 1)) (lv' := [(9, .int (zI (v9_76 + 1))), (10, .int (zI v10_97)), (7, .long r11), (5, .long r8), (4, .int (zI v4_28)), (0, .ref (B + 135)), (1, .ref (B + 22)), (2, .ref (B + a)), (3, .int (zI x))]) hx hb dX6_bring_193 hl (k := 1) rfl (by omega) (by decide) rfl (fun ls hl => ?_)
                            refine lv_goto (tgt := 76) hx hb dX6_bring_196 (by decide) ?_
                            exact ih76 (v9_76 + 1) NL97 (by omega)    hIL97 hFL97 (by omega) _ _ _ w (lv_sub hl [0, 2, 3, 4, 5, 6, 7, 8] rfl)
                          · refine lv_aload_n hx hb dX6_bring_144 rfl (lv_at hl 5 rfl) ?_
                            refine f_6_3 F w (a := 135) rfl tb_233 dX6_bring_145 ?_
                            refine k_Vl F w (As := []) (rest := []) (a := 138) (kd_lt (a := 138) (show kd 138 = (9, 0, 0) from rfl) (by decide)) (sh_9 rfl _ _) rfl (q_X9_linesRead (a := 138) rfl  hIL97) gv_X6_33 hv_X9_linesRead ⟨(Nat.le_of_ble_eq_true rfl), (Nat.le_of_ble_eq_true rfl)⟩ hl.1 rfl (Nat.le_of_ble_eq_true rfl) ⟨Nat.zero_le _, Nat.zero_le _⟩ dX6_bring_148 (fun r29 N30 H locs hp w => ?_)
                            rw [hp] at w
                            refine lv_lload hx hb dX6_bring_151 (lv_at hl 2 rfl) ?_
                            refine W.lcmp hx hb dX6_bring_153 ?_
                            refine lv_topi (fun u32 eu32 => ?_)
                            obtain ⟨z33, bz33, rfl⟩ := rg_ex u32
                            refine z_if_ne (tgt := 193) hx hb (by omega) dX6_bring_154 (by decide) (fun c34 => ?_) (fun c34 => ?_)
                            · refine z_iinc (v := (v9_76 + 1)) (lv' := [(9, .int (zI (v9_76 + 1))), (10, .int (zI v10_97)), (7, .long r11), (5, .long r8), (4, .int (zI v4_28)), (0, .ref (B + 135)), (1, .ref (B + 22)), (2, .ref (B + a)), (3, .int (zI x))]) hx hb dX6_bring_193 hl (k := 1) rfl (by omega) (by decide) rfl (fun ls hl => ?_)
                              refine lv_goto (tgt := 76) hx hb dX6_bring_196 (by decide) ?_
                              exact ih76 (v9_76 + 1) NL97 (by omega)    hIL97 hFL97 (by omega) _ _ _ w (lv_sub hl [0, 2, 3, 4, 5, 6, 7, 8] rfl)
                            · refine lv_aload_n hx hb dX6_bring_157 rfl (lv_at hl 5 rfl) ?_
                              refine f_6_2 F w (a := 135) rfl tb_243 dX6_bring_158 ?_
                              refine lv_iload_n hx hb dX6_bring_161 rfl (lv_at hl 8 rfl) ?_
                              refine lv_aload_n hx hb dX6_bring_162 rfl (lv_at hl 5 rfl) ?_
                              refine f_6_1 F w (a := 135) rfl tb_242 dX6_bring_163 ?_
                              refine lv_iload_n hx hb dX6_bring_166 rfl (lv_at hl 8 rfl) ?_
                              refine g_iald F w (a := 136) rfl (j := (Int.toNat x)) (ix_z (by omega) (by omega)) (by omega) dX6_bring_167 ?_
                              obtain ⟨z35, bz35, ez35⟩ := Inv.ld (k := (Int.toNat x)) hIL97 (show iv 136 (Int.toNat x) = ((-2147483648), 2147483647) from rfl) (show 136 < 146 by decide)
                              refine r_val ez35 ?_
                              refine z_if_ne (tgt := 176) hx hb (by omega) dX6_bring_168 (by decide) (fun c36 => ?_) (fun c36 => ?_)
                              · refine lv_aload_n hx hb dX6_bring_176 rfl (lv_at hl 5 rfl) ?_
                                refine f_6_2 F w (a := 135) rfl tb_243 dX6_bring_177 ?_
                                refine lv_iload_n hx hb dX6_bring_180 rfl (lv_at hl 8 rfl) ?_
                                refine g_iald F w (a := 137) rfl (j := (Int.toNat x)) (ix_z (by omega) (by omega)) (by omega) dX6_bring_181 ?_
                                obtain ⟨z37, bz37, ez37⟩ := Inv.ld (k := (Int.toNat x)) hIL97 (show iv 137 (Int.toNat x) = ((-2147483648), 2147483647) from rfl) (show 137 < 146 by decide)
                                refine r_val ez37 ?_
                                refine g_iast F w (a := 137) rfl (j := (Int.toNat x)) (ix_z (by omega) (by omega)) (by omega) dX6_bring_182 (fun H locs w => ?_)
                                refine lv_aload_n hx hb dX6_bring_183 rfl (lv_at hl 5 rfl) ?_
                                refine f_6_1 F w (a := 135) rfl tb_242 dX6_bring_184 ?_
                                refine lv_iload_n hx hb dX6_bring_187 rfl (lv_at hl 8 rfl) ?_
                                refine lv_dup2_11 hx hb dX6_bring_188 rfl rfl ?_
                                refine g_iald F w (a := 136) rfl (j := (Int.toNat x)) (ix_z (by omega) (by omega)) (by omega) dX6_bring_189 ?_
                                refine r_val (v := zI z35) ((st_ne (Or.inl (by decide))).trans ez35) ?_
                                refine lv_iconst (v := zI 1) hx hb dX6_bring_190 rfl ?_
                                obtain ⟨z38, bz38, x0z38, ez38⟩ := add_ex z35 1
                                refine lv_iadd hx hb dX6_bring_191 ?_
                                refine r_val ez38 ?_
                                refine g_iast F w (a := 136) rfl (j := (Int.toNat x)) (ix_z (by omega) (by omega)) (by omega) dX6_bring_192 (fun H locs w => ?_)
                                refine z_iinc (v := (v9_76 + 1)) (lv' := [(9, .int (zI (v9_76 + 1))), (10, .int (zI v10_97)), (7, .long r11), (5, .long r8), (4, .int (zI v4_28)), (0, .ref (B + 135)), (1, .ref (B + 22)), (2, .ref (B + a)), (3, .int (zI x))]) hx hb dX6_bring_193 hl (k := 1) rfl (by omega) (by decide) rfl (fun ls hl => ?_)
                                refine lv_goto (tgt := 76) hx hb dX6_bring_196 (by decide) ?_
                                exact ih76 (v9_76 + 1) (st (st NL97 137 (Int.toNat x) (zI z37)) 136 (Int.toNat x) (zI z38)) (by omega)    (Inv.to (Inv.to hIL97 (a := 137) (k := (Int.toNat x)) (x := z37) (show iv 137 (Int.toNat x) = ((-2147483648), 2147483647) from rfl) (by omega)) (a := 136) (k := (Int.toNat x)) (x := z38) (show iv 136 (Int.toNat x) = ((-2147483648), 2147483647) from rfl) (by omega)) (Fr.to (Fr.to hFL97 (by first | omega | (dsimp only; first | done | omega))) (by first | omega | (dsimp only; first | done | omega))) (by omega) _ _ _ w (lv_sub hl [0, 2, 3, 4, 5, 6, 7, 8] rfl)
                              · refine lv_iload hx hb dX6_bring_171 (lv_at hl 1 rfl) ?_
                                refine lv_goto (tgt := 182) hx hb dX6_bring_173 (by decide) ?_
                                refine g_iast F w (a := 137) rfl (j := (Int.toNat x)) (ix_z (by omega) (by omega)) (by omega) dX6_bring_182 (fun H locs w => ?_)
                                refine lv_aload_n hx hb dX6_bring_183 rfl (lv_at hl 5 rfl) ?_
                                refine f_6_1 F w (a := 135) rfl tb_242 dX6_bring_184 ?_
                                refine lv_iload_n hx hb dX6_bring_187 rfl (lv_at hl 8 rfl) ?_
                                refine lv_dup2_11 hx hb dX6_bring_188 rfl rfl ?_
                                refine g_iald F w (a := 136) rfl (j := (Int.toNat x)) (ix_z (by omega) (by omega)) (by omega) dX6_bring_189 ?_
                                refine r_val (v := zI z35) ((st_ne (Or.inl (by decide))).trans ez35) ?_
                                refine lv_iconst (v := zI 1) hx hb dX6_bring_190 rfl ?_
                                refine z_iadd (z := (z35 + 1)) hx hb dX6_bring_191 (by omega) ?_
                                refine g_iast F w (a := 136) rfl (j := (Int.toNat x)) (ix_z (by omega) (by omega)) (by omega) dX6_bring_192 (fun H locs w => ?_)
                                refine z_iinc (v := (v9_76 + 1)) (lv' := [(9, .int (zI (v9_76 + 1))), (10, .int (zI v10_97)), (7, .long r11), (5, .long r8), (4, .int (zI v4_28)), (0, .ref (B + 135)), (1, .ref (B + 22)), (2, .ref (B + a)), (3, .int (zI x))]) hx hb dX6_bring_193 hl (k := 1) rfl (by omega) (by decide) rfl (fun ls hl => ?_)
                                refine lv_goto (tgt := 76) hx hb dX6_bring_196 (by decide) ?_
                                exact ih76 (v9_76 + 1) (st (st NL97 137 (Int.toNat x) (zI v9_76)) 136 (Int.toNat x) (zI (z35 + 1))) (by omega)    (Inv.to (Inv.to hIL97 (a := 137) (k := (Int.toNat x)) (x := v9_76) (show iv 137 (Int.toNat x) = ((-2147483648), 2147483647) from rfl) (by omega)) (a := 136) (k := (Int.toNat x)) (x := (z35 + 1)) (show iv 136 (Int.toNat x) = ((-2147483648), 2147483647) from rfl) (by omega)) (Fr.to (Fr.to hFL97 (by first | omega | (dsimp only; first | done | omega))) (by first | omega | (dsimp only; first | done | omega))) (by omega) _ _ _ w (lv_sub hl [0, 2, 3, 4, 5, 6, 7, 8] rfl)
                        · refine lv_aload_n hx hb dX6_bring_106 rfl (lv_at hl 6 rfl) ?_
                          refine f_0_0 F w (a := 22) rfl tb_250 dX6_bring_107 ?_
                          refine lv_aload_n hx hb dX6_bring_110 rfl (lv_at hl 6 rfl) ?_
                          refine f_0_1 F w (a := 22) rfl tb_251 dX6_bring_111 ?_
                          refine lv_iload hx hb dX6_bring_114 (lv_at hl 0 rfl) ?_
                          have hk39 := kd_lst (j := (Int.toNat v10_97)) (by omega)
                          refine g_aldR F w (a := 24) rfl (j := (Int.toNat v10_97)) (o := (28 + 2 * (Int.toNat v10_97))) rfl (ix_z (by omega) (by omega)) (by omega) dX6_bring_116 ?_
                          refine lv_aload_n hx hb dX6_bring_117 rfl (lv_at hl 5 rfl) ?_
                          refine f_6_3 F w (a := 135) rfl tb_233 dX6_bring_118 ?_
                          refine k_Vi F w (As := [.ref (B + (28 + 2 * (Int.toNat v10_97))), .ref (B + 138)]) (rest := []) (a := 23) (kd_lt (a := 23) (show kd 23 = (1, 0, 0) from rfl) (by decide)) (sh_1 rfl _ _) rfl (q_X1_perform (u1 := (28 + 2 * (Int.toNat v10_97))) hk39 (a := 138) rfl  hIL97) gv_X6_56 hv_X1_perform ⟨(Nat.le_of_ble_eq_true rfl), (Nat.le_of_ble_eq_true rfl)⟩ hl.1 rfl (Nat.le_of_ble_eq_true rfl) ⟨Nat.zero_le _, Nat.zero_le _⟩ dX6_bring_121 (fun r40 N41 H locs hp w => ?_)
                          obtain ⟨z42, rfl, bz42, hIN41, hFN41⟩ := hp
                          have hGN41 := Fr.tr hFL97 hFN41 (S := (fun b9 k9 => (b9 = 23 ∧ k9 = 0) ∨ b9 = 135 ∨ b9 = 136 ∨ b9 = 137 ∨ b9 = 138 ∨ b9 = 139 ∨ b9 = 140)) (fun b k h => by first | omega | (dsimp only at h ⊢; omega))
                          have kn43 : N41.1 22 2 = zI z21 := (hFN41 22 2 (by first | omega | (dsimp only; omega))).trans (ez21)
                          refine lv_pop hx hb dX6_bring_124 rfl ?_
                          refine z_iinc (v := (v10_97 + 1)) (lv' := [(10, .int (zI (v10_97 + 1))), (9, .int (zI v9_76)), (7, .long r11), (5, .long r8), (4, .int (zI v4_28)), (0, .ref (B + 135)), (1, .ref (B + 22)), (2, .ref (B + a)), (3, .int (zI x))]) hx hb dX6_bring_125 hl (k := 0) rfl (by omega) (by decide) rfl (fun ls hl => ?_)
                          refine lv_goto (tgt := 97) hx hb dX6_bring_128 (by decide) ?_
                          exact ih97 (v10_97 + 1) N41 (by omega)    hIN41 hGN41 (by omega) _ _ _ w (lv_sub hl [0, 1, 2, 3, 4, 5, 6, 7, 8] rfl)
                    exact lp97 _ 0 N19 (by omega) hIN19 hGN19 (Nat.lt_succ_self _) _ _ _ w (lv_sub hl [0, 1, 2, 3, 4, 5, 6, 7, 8] rfl)
              exact lp76 _ 0 (st (st M 136 (Int.toNat x) (zI 0)) 137 (Int.toNat x) (zI (-2))) (by omega) (Inv.to (Inv.to hI (a := 136) (k := (Int.toNat x)) (x := 0) (show iv 136 (Int.toNat x) = ((-2147483648), 2147483647) from rfl) (by omega)) (a := 137) (k := (Int.toNat x)) (x := (-2)) (show iv 137 (Int.toNat x) = ((-2147483648), 2147483647) from rfl) (by omega)) (Fr.to (Fr.to hF (by first | omega | (dsimp only; first | done | omega))) (by first | omega | (dsimp only; first | done | omega))) (Nat.lt_succ_self _) _ _ _ w (lv_sub hl [0, 1, 2, 3, 4, 5, 6, 7] rfl)
            · refine lv_iload hx hb dX6_bring_34 (lv_at hl 1 rfl) ?_
              refine lv_iconst (v := zI 3) hx hb dX6_bring_36 rfl ?_
              refine lv_imul hx hb dX6_bring_37 ?_
              refine lv_topi (fun u44 eu44 => ?_)
              obtain ⟨z45, bz45, rfl⟩ := rg_ex u44
              refine lv_istore (lv' := [(4, .int (zI z45)), (5, .int (zI v5_28)), (0, .ref (B + 135)), (1, .ref (B + 22)), (2, .ref (B + a)), (3, .int (zI x))]) hx hb dX6_bring_38 hl (by decide) rfl (fun ls hl => ?_)
              refine z_iinc (v := (v5_28 + 1)) (lv' := [(5, .int (zI (v5_28 + 1))), (4, .int (zI z45)), (0, .ref (B + 135)), (1, .ref (B + 22)), (2, .ref (B + a)), (3, .int (zI x))]) hx hb dX6_bring_40 hl (k := 1) rfl (by omega) (by decide) rfl (fun ls hl => ?_)
              refine lv_goto (tgt := 28) hx hb dX6_bring_43 (by decide) ?_
              exact ih28 (v5_28 + 1) z45 (by omega) (by omega)     (by omega) _ _ _ w (lv_sub hl [0, 1, 2, 3, 4, 5] rfl)
        exact lp28 _ 0 1 (by omega) (by omega) (Nat.lt_succ_self _) _ _ _ w (lv_sub hl [0, 1, 2, 3, 4, 5] rfl)
      · rw [hQ]
        exact e_v F w hr hlocks ⟨hI, hF⟩ dX6_bring_21
theorem dX7_put_0 : decode cX7_put 0 = .ok (.aload_n 0, 1) := dq0 kk_42 (by decide +kernel)
theorem dX7_put_1 : decode cX7_put 1 = .ok (.getfield 15, 3) := dqV kk_180 (by decide +kernel)
theorem tb_253 : Cond.fieldLink "ToneLines$Speller" 15 "ToneLines$Speller" "size" "I" ∈ TB := tbm (tc2 (List.mem_of_getElem? (i := 47) rfl)) rfl
theorem dX7_put_4 : decode cX7_put 4 = .ok (.sipush 256, 3) := dqT kk_17 (by decide +kernel)
theorem dX7_put_7 : decode cX7_put 7 = .ok (.if_icmp .ge 23, 3) := dqT kk_162 (by decide +kernel)
theorem dX7_put_30 : decode cX7_put 30 = .ok (.return_, 1) := dq0 kk_177 (by decide +kernel)
theorem dX7_put_10 : decode cX7_put 10 = .ok (.aload_n 0, 1) := dq0 kk_42 (by decide +kernel)
theorem dX7_put_11 : decode cX7_put 11 = .ok (.getfield 9, 3) := dqV kk_180 (by decide +kernel)
theorem tb_254 : Cond.fieldLink "ToneLines$Speller" 9 "ToneLines$Speller" "signs" "[C" ∈ TB := tbm (tc2 (List.mem_of_getElem? (i := 45) rfl)) rfl
theorem dX7_put_14 : decode cX7_put 14 = .ok (.aload_n 0, 1) := dq0 kk_42 (by decide +kernel)
theorem dX7_put_15 : decode cX7_put 15 = .ok (.getfield 15, 3) := dqV kk_180 (by decide +kernel)
theorem dX7_put_18 : decode cX7_put 18 = .ok (.iload_n 1, 1) := dq0 kk_27 (by decide +kernel)
theorem dX7_put_19 : decode cX7_put 19 = .ok (.castore, 1) := by decide +kernel
theorem dX7_put_20 : decode cX7_put 20 = .ok (.aload_n 0, 1) := dq0 kk_42 (by decide +kernel)
theorem dX7_put_21 : decode cX7_put 21 = .ok (.dup, 1) := dq0 kk_89 (by decide +kernel)
theorem dX7_put_22 : decode cX7_put 22 = .ok (.getfield 15, 3) := dqV kk_180 (by decide +kernel)
theorem dX7_put_25 : decode cX7_put 25 = .ok (.iconst 1, 1) := dq0 kk_4 (by decide +kernel)
theorem dX7_put_26 : decode cX7_put 26 = .ok (.iadd, 1) := dq0 kk_96 (by decide +kernel)
theorem dX7_put_27 : decode cX7_put 27 = .ok (.putfield 15, 3) := dqV kk_181 (by decide +kernel)
set_option maxRecDepth 4000 in
theorem q_X7_put {l : Launch} {D : va_G} {B : Nat} {cy : Nat → ClassId} {M : Mem} {x : Int} (hx : 0 ≤ x ∧ x ≤ 65535) (hI : Inv M) : Cv l D B cy yX7_put cX7_put 2 0 0 [.ref (B + 141), .int (zI x)] M (fun M1 => Inv M1 ∧ Fr (fun b9 k9 => (b9 = 141 ∧ k9 = 1) ∨ b9 = 142) M1 M) := by
  refine s_anyQ (by decide) (Nat.le_of_ble_eq_true rfl) ?_
  intro p e s m args below meth c ls Q F hr hlocks hQ w hl
  have F : CallFix p m c cX7_put 2 s args TB RX7 := F
  have hx := F.1
  have hb := F.2.1
  have hl : lv_has ls 2 [(0, .ref (B + 141)), (1, .int (zI x))] := hl
  have hF : Fr (fun b9 k9 => (b9 = 141 ∧ k9 = 1) ∨ b9 = 142) M M := Fr.rf
  refine lv_aload_n hx hb dX7_put_0 rfl (lv_at hl 0 rfl) ?_
  refine f_7_1 F w (a := 141) rfl tb_253 dX7_put_1 ?_
  obtain ⟨z1, bz1, ez1⟩ := Inv.ld (k := 1) hI (show iv 141 1 = (0, 256) from rfl) (show 141 < 146 by decide)
  refine r_val ez1 ?_
  refine lv_sipush (v := zI 256) hx hb dX7_put_4 (by decide) ?_
  refine z_icmp_ge (tgt := 30) hx hb (by omega) (by omega) dX7_put_7 (by decide) (fun c2 => ?_) (fun c2 => ?_)
  · rw [hQ]
    exact e_v F w hr hlocks ⟨hI, hF⟩ dX7_put_30
  · refine lv_aload_n hx hb dX7_put_10 rfl (lv_at hl 0 rfl) ?_
    refine f_7_0 F w (a := 141) rfl tb_254 dX7_put_11 ?_
    refine lv_aload_n hx hb dX7_put_14 rfl (lv_at hl 0 rfl) ?_
    refine f_7_1 F w (a := 141) rfl tb_253 dX7_put_15 ?_
    refine r_val (v := zI z1) (ez1) ?_
    refine lv_iload_n hx hb dX7_put_18 rfl (lv_at hl 1 rfl) ?_
    refine g_cast F w (a := 142) rfl (j := (Int.toNat z1)) (ix_z (by omega) (by omega)) (by omega) dX7_put_19 (fun H locs w => ?_)
    rw [nar_c (z := x) (by omega)] at w
    refine lv_aload_n hx hb dX7_put_20 rfl (lv_at hl 0 rfl) ?_
    refine lv_dup hx hb dX7_put_21 rfl ?_
    refine f_7_1 F w (a := 141) rfl tb_253 dX7_put_22 ?_
    refine r_val (v := zI z1) ((st_ne (Or.inl (by decide))).trans ez1) ?_
    refine lv_iconst (v := zI 1) hx hb dX7_put_25 rfl ?_
    refine z_iadd (z := (z1 + 1)) hx hb dX7_put_26 (by omega) ?_
    refine u_7_1 F w (a := 141) rfl tb_253 dX7_put_27 (fun H locs w => ?_)
    rw [hQ]
    exact e_v F w hr hlocks ⟨(Inv.to (Inv.to hI (a := 142) (k := (Int.toNat z1)) (x := x) (show iv 142 (Int.toNat z1) = (0, 65535) from rfl) (by omega)) (a := 141) (k := 1) (x := (z1 + 1)) (show iv 141 1 = (0, 256) from rfl) (by omega)), (Fr.to (Fr.to hF (by first | omega | (dsimp only; first | done | omega))) (by first | omega | (dsimp only; first | done | omega)))⟩ dX7_put_30
theorem dX7_putNumber_0 : decode cX7_putNumber 0 = .ok (.iload_n 1, 1) := dq0 kk_27 (by decide +kernel)
theorem dX7_putNumber_1 : decode cX7_putNumber 1 = .ok (.bipush 10, 2) := dqS kk_16 (by decide +kernel)
theorem dX7_putNumber_3 : decode cX7_putNumber 3 = .ok (.if_icmp .lt 15, 3) := dqT kk_161 (by decide +kernel)
theorem dX7_putNumber_18 : decode cX7_putNumber 18 = .ok (.aload_n 0, 1) := dq0 kk_42 (by decide +kernel)
theorem dX7_putNumber_19 : decode cX7_putNumber 19 = .ok (.bipush 48, 2) := dqS kk_16 (by decide +kernel)
theorem dX7_putNumber_21 : decode cX7_putNumber 21 = .ok (.iload_n 1, 1) := dq0 kk_27 (by decide +kernel)
theorem dX7_putNumber_22 : decode cX7_putNumber 22 = .ok (.bipush 10, 2) := dqS kk_16 (by decide +kernel)
theorem dX7_putNumber_24 : decode cX7_putNumber 24 = .ok (.irem, 1) := dq0 kk_112 (by decide +kernel)
theorem dX7_putNumber_25 : decode cX7_putNumber 25 = .ok (.iadd, 1) := dq0 kk_96 (by decide +kernel)
theorem dX7_putNumber_26 : decode cX7_putNumber 26 = .ok (.i2c, 1) := dq0 kk_146 (by decide +kernel)
theorem dX7_putNumber_27 : decode cX7_putNumber 27 = .ok (.invokevirtual 28, 3) := dqV kk_182 (by decide +kernel)
theorem tk_X7_put : Cond.code yX7_put cX7_put 2 none ∈ TB := tbm (tc4 (List.mem_of_getElem? (i := 189) rfl)) rfl
theorem gc_X7_put : GoodIn TB (cw yX7_put cX7_put 2 none) := goodIn_c2 tk_X7_put
theorem tb_255 : Cond.methodLink "ToneLines$Speller" 28 yX7_put ∈ TB := tbm (tc4 (List.mem_of_getElem? (i := 186) rfl)) rfl
theorem tb_256 : Cond.instanceMethod yX7_put ∈ TB := tbm (tc4 (List.mem_of_getElem? (i := 188) rfl)) rfl
theorem tb_257 : Cond.selects "ToneLines$Speller" yX7_put yX7_put ∈ TB := tbp (List.mem_of_getElem? (i := 30) rfl) rfl
theorem tb_258 : Cond.initialized "ToneLines$Speller" ∈ TB := tbm (tc1 (List.mem_of_getElem? (i := 12) rfl)) rfl
theorem gv_X7_28 : GoodIn TB (wsV RX7 28 RX7 yX7_put (cw yX7_put cX7_put 2 none)) := goodIn_4 tb_255 tb_256 tb_257 tb_258 gc_X7_put
theorem hv_X7_put : yX7_put.cls = RX7 ∧ yX7_put.cls ≠ "java/lang/invoke/MethodHandle" ∧ yX7_put.cls ≠ "java/lang/invoke/VarHandle" ∧ (parseMethodDescriptor yX7_put.desc).map (fun d => d.parameters.length) = some 1 := by decide +kernel
theorem dX7_putNumber_30 : decode cX7_putNumber 30 = .ok (.return_, 1) := dq0 kk_177 (by decide +kernel)
theorem dX7_putNumber_6 : decode cX7_putNumber 6 = .ok (.aload_n 0, 1) := dq0 kk_42 (by decide +kernel)
theorem dX7_putNumber_7 : decode cX7_putNumber 7 = .ok (.bipush 48, 2) := dqS kk_16 (by decide +kernel)
theorem dX7_putNumber_9 : decode cX7_putNumber 9 = .ok (.iload_n 1, 1) := dq0 kk_27 (by decide +kernel)
theorem dX7_putNumber_10 : decode cX7_putNumber 10 = .ok (.bipush 10, 2) := dqS kk_16 (by decide +kernel)
theorem dX7_putNumber_12 : decode cX7_putNumber 12 = .ok (.idiv, 1) := dq0 kk_108 (by decide +kernel)
theorem dX7_putNumber_13 : decode cX7_putNumber 13 = .ok (.iadd, 1) := dq0 kk_96 (by decide +kernel)
theorem dX7_putNumber_14 : decode cX7_putNumber 14 = .ok (.i2c, 1) := dq0 kk_146 (by decide +kernel)
theorem dX7_putNumber_15 : decode cX7_putNumber 15 = .ok (.invokevirtual 28, 3) := dqV kk_182 (by decide +kernel)
set_option maxRecDepth 4000 in
theorem q_X7_putNumber {l : Launch} {D : va_G} {B : Nat} {cy : Nat → ClassId} {M : Mem} {x : Int} (hx : (-1) ≤ x ∧ x ≤ 11) (hI : Inv M) : Cv l D B cy yX7_putNumber cX7_putNumber 2 1 21 [.ref (B + 141), .int (zI x)] M (fun M1 => Inv M1 ∧ Fr (fun b9 k9 => (b9 = 141 ∧ k9 = 1) ∨ b9 = 142) M1 M) := by
  refine s_anyQ (by decide) (Nat.le_of_ble_eq_true rfl) ?_
  intro p e s m args below meth c ls Q F hr hlocks hQ w hl
  have F : CallFix p m c cX7_putNumber 2 s args TB RX7 := F
  have hx := F.1
  have hb := F.2.1
  have hl : lv_has ls 2 [(0, .ref (B + 141)), (1, .int (zI x))] := hl
  have hF : Fr (fun b9 k9 => (b9 = 141 ∧ k9 = 1) ∨ b9 = 142) M M := Fr.rf
  refine lv_iload_n hx hb dX7_putNumber_0 rfl (lv_at hl 1 rfl) ?_
  refine lv_bipush (v := zI 10) hx hb dX7_putNumber_1 (by decide) ?_
  refine z_icmp_lt (tgt := 18) hx hb (by omega) (by omega) dX7_putNumber_3 (by decide) (fun c1 => ?_) (fun c1 => ?_)
  · refine lv_aload_n hx hb dX7_putNumber_18 rfl (lv_at hl 0 rfl) ?_
    refine lv_bipush (v := zI 48) hx hb dX7_putNumber_19 (by decide) ?_
    refine lv_iload_n hx hb dX7_putNumber_21 rfl (lv_at hl 1 rfl) ?_
    refine lv_bipush (v := zI 10) hx hb dX7_putNumber_22 (by decide) ?_
    refine lv_irem hx hb dX7_putNumber_24 (nz_z (by omega) (by omega)) ?_
    obtain ⟨z2, bz2, x0z2, ez2⟩ := rem_ex x 10 (by omega) (by omega)
    refine r_val ez2 ?_
    obtain ⟨z3, bz3, x0z3, ez3⟩ := add_ex 48 z2
    refine lv_iadd hx hb dX7_putNumber_25 ?_
    refine r_val ez3 ?_
    obtain ⟨z4, bz4, ez4⟩ := i2c_ex (zI z3)
    refine lv_i2c (v := zI z4) hx hb dX7_putNumber_26 ez4 ?_
    refine k_Vv F w (As := [.int (zI z4)]) (rest := []) (a := 141) (kd_lt (a := 141) (show kd 141 = (7, 0, 0) from rfl) (by decide)) (sh_7 rfl _ _) rfl (q_X7_put (x := z4) (by omega)  hI) gv_X7_28 hv_X7_put ⟨(Nat.le_of_ble_eq_true rfl), (Nat.le_of_ble_eq_true rfl)⟩ hl.1 rfl (Nat.le_of_ble_eq_true rfl) ⟨Nat.zero_le _, Nat.zero_le _⟩ dX7_putNumber_27 (fun N6 H locs hp w => ?_)
    obtain ⟨hIN6, hFN6⟩ := hp
    have hGN6 := Fr.tr hF hFN6 (S := (fun b9 k9 => (b9 = 141 ∧ k9 = 1) ∨ b9 = 142)) (fun b k h => by first | omega | (dsimp only at h ⊢; omega))
    rw [hQ]
    exact e_v F w hr hlocks ⟨hIN6, hGN6⟩ dX7_putNumber_30
  · refine lv_aload_n hx hb dX7_putNumber_6 rfl (lv_at hl 0 rfl) ?_
    refine lv_bipush (v := zI 48) hx hb dX7_putNumber_7 (by decide) ?_
    refine lv_iload_n hx hb dX7_putNumber_9 rfl (lv_at hl 1 rfl) ?_
    refine lv_bipush (v := zI 10) hx hb dX7_putNumber_10 (by decide) ?_
    refine lv_idiv hx hb dX7_putNumber_12 (nz_z (by omega) (by omega)) ?_
    obtain ⟨z8, bz8, x0z8, ez8⟩ := div_ex x 10 (by omega) (by omega)
    refine r_val ez8 ?_
    refine z_iadd (z := (z8 + 48)) hx hb dX7_putNumber_13 (by omega) ?_
    obtain ⟨z9, bz9, ez9⟩ := i2c_ex (zI (z8 + 48))
    refine lv_i2c (v := zI z9) hx hb dX7_putNumber_14 ez9 ?_
    refine k_Vv F w (As := [.int (zI z9)]) (rest := []) (a := 141) (kd_lt (a := 141) (show kd 141 = (7, 0, 0) from rfl) (by decide)) (sh_7 rfl _ _) rfl (q_X7_put (x := z9) (by omega)  hI) gv_X7_28 hv_X7_put ⟨(Nat.le_of_ble_eq_true rfl), (Nat.le_of_ble_eq_true rfl)⟩ hl.1 rfl (Nat.le_of_ble_eq_true rfl) ⟨Nat.zero_le _, Nat.zero_le _⟩ dX7_putNumber_15 (fun N11 H locs hp w => ?_)
    obtain ⟨hIN11, hFN11⟩ := hp
    have hGN11 := Fr.tr hF hFN11 (S := (fun b9 k9 => (b9 = 141 ∧ k9 = 1) ∨ b9 = 142)) (fun b k h => by first | omega | (dsimp only at h ⊢; omega))
    refine lv_aload_n hx hb dX7_putNumber_18 rfl (lv_at hl 0 rfl) ?_
    refine lv_bipush (v := zI 48) hx hb dX7_putNumber_19 (by decide) ?_
    refine lv_iload_n hx hb dX7_putNumber_21 rfl (lv_at hl 1 rfl) ?_
    refine lv_bipush (v := zI 10) hx hb dX7_putNumber_22 (by decide) ?_
    refine lv_irem hx hb dX7_putNumber_24 (nz_z (by omega) (by omega)) ?_
    obtain ⟨z13, bz13, x0z13, ez13⟩ := rem_ex x 10 (by omega) (by omega)
    refine r_val ez13 ?_
    refine z_iadd (z := (z13 + 48)) hx hb dX7_putNumber_25 (by omega) ?_
    obtain ⟨z14, bz14, ez14⟩ := i2c_ex (zI (z13 + 48))
    refine lv_i2c (v := zI z14) hx hb dX7_putNumber_26 ez14 ?_
    refine k_Vv F w (As := [.int (zI z14)]) (rest := []) (a := 141) (kd_lt (a := 141) (show kd 141 = (7, 0, 0) from rfl) (by decide)) (sh_7 rfl _ _) rfl (q_X7_put (x := z14) (by omega)  hIN11) gv_X7_28 hv_X7_put ⟨(Nat.le_of_ble_eq_true rfl), (Nat.le_of_ble_eq_true rfl)⟩ hl.1 rfl (Nat.le_of_ble_eq_true rfl) ⟨Nat.zero_le _, Nat.zero_le _⟩ dX7_putNumber_27 (fun N16 H locs hp w => ?_)
    obtain ⟨hIN16, hFN16⟩ := hp
    have hGN16 := Fr.tr hGN11 hFN16 (S := (fun b9 k9 => (b9 = 141 ∧ k9 = 1) ∨ b9 = 142)) (fun b k h => by first | omega | (dsimp only at h ⊢; omega))
    rw [hQ]
    exact e_v F w hr hlocks ⟨hIN16, hGN16⟩ dX7_putNumber_30
theorem dX7_writeLines_0 : decode cX7_writeLines 0 = .ok (.iconst 1, 1) := dq0 kk_4 (by decide +kernel)
theorem dX7_writeLines_1 : decode cX7_writeLines 1 = .ok (.istore_n 2, 1) := dq0 kk_61 (by decide +kernel)
theorem dX7_writeLines_2 : decode cX7_writeLines 2 = .ok (.iconst 0, 1) := dq0 kk_3 (by decide +kernel)
theorem dX7_writeLines_3 : decode cX7_writeLines 3 = .ok (.istore_n 3, 1) := dq0 kk_62 (by decide +kernel)
theorem dX7_writeLines_4 : decode cX7_writeLines 4 = .ok (.iload_n 3, 1) := dq0 kk_29 (by decide +kernel)
theorem dX7_writeLines_5 : decode cX7_writeLines 5 = .ok (.aload_n 1, 1) := dq0 kk_43 (by decide +kernel)
theorem dX7_writeLines_6 : decode cX7_writeLines 6 = .ok (.getfield 19, 3) := dqV kk_180 (by decide +kernel)
theorem tb_259 : Cond.fieldLink "ToneLines$Speller" 19 "ToneLines$Word" "tones" "I" ∈ TB := tbm (tc1 (List.mem_of_getElem? (i := 130) rfl)) rfl
theorem dX7_writeLines_9 : decode cX7_writeLines 9 = .ok (.if_icmp .ge 65, 3) := dqT kk_162 (by decide +kernel)
theorem dX7_writeLines_74 : decode cX7_writeLines 74 = .ok (.return_, 1) := dq0 kk_177 (by decide +kernel)
theorem dX7_writeLines_12 : decode cX7_writeLines 12 = .ok (.aload_n 1, 1) := dq0 kk_43 (by decide +kernel)
theorem dX7_writeLines_13 : decode cX7_writeLines 13 = .ok (.iload_n 3, 1) := dq0 kk_29 (by decide +kernel)
theorem dX7_writeLines_14 : decode cX7_writeLines 14 = .ok (.invokevirtual 46, 3) := dqV kk_182 (by decide +kernel)
theorem tb_260 : Cond.methodLink "ToneLines$Speller" 46 yX9_linesFrom ∈ TB := tbm (tc4 (List.mem_of_getElem? (i := 196) rfl)) rfl
theorem gv_X7_46 : GoodIn TB (wsV RX7 46 RX9 yX9_linesFrom (cw yX9_linesFrom cX9_linesFrom 2 (some .int))) := goodIn_4 tb_260 tb_64 tb_65 tb_5 gc_X9_linesFrom
theorem dX7_writeLines_17 : decode cX7_writeLines 17 = .ok (.istore 4, 2) := dqU kk_54 (by decide +kernel)
theorem dX7_writeLines_19 : decode cX7_writeLines 19 = .ok (.iload 4, 2) := dqU kk_21 (by decide +kernel)
theorem dX7_writeLines_21 : decode cX7_writeLines 21 = .ok (.ifCond .eq 47, 3) := dqT kk_153 (by decide +kernel)
theorem dX7_writeLines_68 : decode cX7_writeLines 68 = .ok (.iinc 3 1, 3) := dqI kk_132 (by decide +kernel)
theorem dX7_writeLines_71 : decode cX7_writeLines 71 = .ok (.goto (-67), 3) := dqT kk_167 (by decide +kernel)
theorem dX7_writeLines_24 : decode cX7_writeLines 24 = .ok (.iload_n 2, 1) := dq0 kk_28 (by decide +kernel)
theorem dX7_writeLines_25 : decode cX7_writeLines 25 = .ok (.ifCond .ne 9, 3) := dqT kk_154 (by decide +kernel)
theorem dX7_writeLines_34 : decode cX7_writeLines 34 = .ok (.iconst 0, 1) := dq0 kk_3 (by decide +kernel)
theorem dX7_writeLines_35 : decode cX7_writeLines 35 = .ok (.istore_n 2, 1) := dq0 kk_61 (by decide +kernel)
theorem dX7_writeLines_36 : decode cX7_writeLines 36 = .ok (.aload_n 0, 1) := dq0 kk_42 (by decide +kernel)
theorem dX7_writeLines_37 : decode cX7_writeLines 37 = .ok (.iload_n 3, 1) := dq0 kk_29 (by decide +kernel)
theorem dX7_writeLines_38 : decode cX7_writeLines 38 = .ok (.invokevirtual 49, 3) := dqV kk_182 (by decide +kernel)
theorem tk_X7_putNumber : Cond.code yX7_putNumber cX7_putNumber 2 none ∈ TB := tbm (tc4 (List.mem_of_getElem? (i := 200) rfl)) rfl
theorem gc_X7_putNumber : GoodIn TB (cw yX7_putNumber cX7_putNumber 2 none) := goodIn_c2 tk_X7_putNumber
theorem tb_261 : Cond.methodLink "ToneLines$Speller" 49 yX7_putNumber ∈ TB := tbm (tc4 (List.mem_of_getElem? (i := 197) rfl)) rfl
theorem tb_262 : Cond.instanceMethod yX7_putNumber ∈ TB := tbm (tc4 (List.mem_of_getElem? (i := 199) rfl)) rfl
theorem tb_263 : Cond.selects "ToneLines$Speller" yX7_putNumber yX7_putNumber ∈ TB := tbp (List.mem_of_getElem? (i := 32) rfl) rfl
theorem gv_X7_49 : GoodIn TB (wsV RX7 49 RX7 yX7_putNumber (cw yX7_putNumber cX7_putNumber 2 none)) := goodIn_4 tb_261 tb_262 tb_263 tb_258 gc_X7_putNumber
theorem hv_X7_putNumber : yX7_putNumber.cls = RX7 ∧ yX7_putNumber.cls ≠ "java/lang/invoke/MethodHandle" ∧ yX7_putNumber.cls ≠ "java/lang/invoke/VarHandle" ∧ (parseMethodDescriptor yX7_putNumber.desc).map (fun d => d.parameters.length) = some 1 := by decide +kernel
theorem dX7_writeLines_41 : decode cX7_writeLines 41 = .ok (.aload_n 0, 1) := dq0 kk_42 (by decide +kernel)
theorem dX7_writeLines_42 : decode cX7_writeLines 42 = .ok (.bipush 58, 2) := dqS kk_16 (by decide +kernel)
theorem dX7_writeLines_44 : decode cX7_writeLines 44 = .ok (.invokevirtual 28, 3) := dqV kk_182 (by decide +kernel)
theorem dX7_writeLines_47 : decode cX7_writeLines 47 = .ok (.aload_n 0, 1) := dq0 kk_42 (by decide +kernel)
theorem dX7_writeLines_48 : decode cX7_writeLines 48 = .ok (.iload 4, 2) := dqU kk_21 (by decide +kernel)
theorem dX7_writeLines_50 : decode cX7_writeLines 50 = .ok (.invokestatic 53, 3) := dqV kk_184 (by decide +kernel)
theorem dX7_writeLines_53 : decode cX7_writeLines 53 = .ok (.invokevirtual 49, 3) := dqV kk_182 (by decide +kernel)
theorem dX7_writeLines_56 : decode cX7_writeLines 56 = .ok (.iload 4, 2) := dqU kk_21 (by decide +kernel)
theorem dX7_writeLines_58 : decode cX7_writeLines 58 = .ok (.iload 4, 2) := dqU kk_21 (by decide +kernel)
theorem dX7_writeLines_60 : decode cX7_writeLines 60 = .ok (.iconst 1, 1) := dq0 kk_4 (by decide +kernel)
theorem dX7_writeLines_61 : decode cX7_writeLines 61 = .ok (.isub, 1) := dq0 kk_100 (by decide +kernel)
theorem dX7_writeLines_62 : decode cX7_writeLines 62 = .ok (.iand, 1) := dq0 kk_126 (by decide +kernel)
theorem dX7_writeLines_63 : decode cX7_writeLines 63 = .ok (.istore 4, 2) := dqU kk_54 (by decide +kernel)
theorem dX7_writeLines_65 : decode cX7_writeLines 65 = .ok (.goto (-46), 3) := dqT kk_167 (by decide +kernel)
theorem dX7_writeLines_28 : decode cX7_writeLines 28 = .ok (.aload_n 0, 1) := dq0 kk_42 (by decide +kernel)
theorem dX7_writeLines_29 : decode cX7_writeLines 29 = .ok (.bipush 32, 2) := dqS kk_16 (by decide +kernel)
theorem dX7_writeLines_31 : decode cX7_writeLines 31 = .ok (.invokevirtual 28, 3) := dqV kk_182 (by decide +kernel)
set_option maxRecDepth 4000 in
theorem q_X7_writeLines {l : Launch} {D : va_G} {B : Nat} {cy : Nat → ClassId} {M : Mem} {a : Nat} (hka : kd a = (9, 0, 0)) (hI : Inv M) : Cv l D B cy yX7_writeLines cX7_writeLines 5 2 42 [.ref (B + 141), .ref (B + a)] M (fun M1 => Inv M1 ∧ Fr (fun b9 k9 => (b9 = 141 ∧ k9 = 1) ∨ b9 = 142) M1 M) := by
  refine s_anyQ (by decide) (Nat.le_of_ble_eq_true rfl) ?_
  intro p e s m args below meth c ls Q F hr hlocks hQ w hl
  have F : CallFix p m c cX7_writeLines 5 s args TB RX7 := F
  have hx := F.1
  have hb := F.2.1
  have hl : lv_has ls 5 [(0, .ref (B + 141)), (1, .ref (B + a))] := hl
  have hF : Fr (fun b9 k9 => (b9 = 141 ∧ k9 = 1) ∨ b9 = 142) M M := Fr.rf
  refine lv_iconst (v := zI 1) hx hb dX7_writeLines_0 rfl ?_
  refine lv_istore_n (lv' := [(2, .int (zI 1)), (0, .ref (B + 141)), (1, .ref (B + a))]) hx hb dX7_writeLines_1 rfl hl (by decide) rfl (fun ls hl => ?_)
  refine lv_iconst (v := zI 0) hx hb dX7_writeLines_2 rfl ?_
  refine lv_istore_n (lv' := [(3, .int (zI 0)), (2, .int (zI 1)), (0, .ref (B + 141)), (1, .ref (B + a))]) hx hb dX7_writeLines_3 rfl hl (by decide) rfl (fun ls hl => ?_)
  have lp4 : ∀ (f : Nat) (v3_4 : Int) (v2_4 : Int)  (NL4 : Mem), (0 ≤ v3_4 ∧ v3_4 ≤ 12) → (0 ≤ v2_4 ∧ v2_4 ≤ 1) → Inv NL4 → Fr (fun b9 k9 => (b9 = 141 ∧ k9 = 1) ∨ b9 = 142) NL4 M → (Int.toNat (12 - v3_4) < f) → ∀ (H : Heap) (locs : List Loc) (ls : Array Slot), Wd D B cy s s.heap NL4 H locs → lv_has ls 5 [(3, .int (zI v3_4)), (2, .int (zI v2_4)), (0, .ref (B + 141)), (1, .ref (B + a))] → W p l e (rmm 2 42) s m args below meth c H locs 0 0 Q (F0 m 4 ls []) := by
    intro f
    induction f with
    | zero => intros; omega
    | succ f ih4 =>
      intro v3_4 v2_4  NL4 iv3_4 iv2_4 hIL4 hFL4 hf4 H locs ls w hl
      refine lv_iload_n hx hb dX7_writeLines_4 rfl (lv_at hl 0 rfl) ?_
      refine lv_aload_n hx hb dX7_writeLines_5 rfl (lv_at hl 3 rfl) ?_
      refine f_9_0 F w (a := a) hka tb_259 dX7_writeLines_6 ?_
      obtain ⟨z1, bz1, ez1⟩ := Inv.ld (k := 0) hIL4 (iv_w0 hka) (by have := lt_w hka; omega)
      refine r_val ez1 ?_
      refine z_icmp_ge (tgt := 74) hx hb (by omega) (by omega) dX7_writeLines_9 (by decide) (fun c2 => ?_) (fun c2 => ?_)
      · rw [hQ]
        exact e_v F w hr hlocks ⟨hIL4, hFL4⟩ dX7_writeLines_74
      · refine lv_aload_n hx hb dX7_writeLines_12 rfl (lv_at hl 3 rfl) ?_
        refine lv_iload_n hx hb dX7_writeLines_13 rfl (lv_at hl 0 rfl) ?_
        refine k_Vi F w (As := [.int (zI v3_4)]) (rest := []) (a := a) (kd_lt (a := a) hka (by decide)) (sh_9 hka _ _) rfl (q_X9_linesFrom (a := a) hka (t := v3_4) (by omega)  hIL4) gv_X7_46 hv_X9_linesFrom ⟨(Nat.le_of_ble_eq_true rfl), (Nat.le_of_ble_eq_true rfl)⟩ hl.1 rfl (Nat.le_of_ble_eq_true rfl) ⟨Nat.zero_le _, Nat.zero_le _⟩ dX7_writeLines_14 (fun r3 N4 H locs hp w => ?_)
        obtain ⟨z5, rfl, bz5, hMN4⟩ := hp
        rw [hMN4] at w
        refine lv_istore (lv' := [(4, .int (zI z5)), (3, .int (zI v3_4)), (2, .int (zI v2_4)), (0, .ref (B + 141)), (1, .ref (B + a))]) hx hb dX7_writeLines_17 hl (by decide) rfl (fun ls hl => ?_)
        have lp19 : ∀ (f : Nat) (v4_19 : Int) (v2_19 : Int)  (NL19 : Mem), (0 ≤ v4_19 ∧ v4_19 ≤ 4095) → (0 ≤ v2_19 ∧ v2_19 ≤ 1) → Inv NL19 → Fr (fun b9 k9 => (b9 = 141 ∧ k9 = 1) ∨ b9 = 142) NL19 M → (Int.toNat (v4_19 - 0) < f) → ∀ (H : Heap) (locs : List Loc) (ls : Array Slot), Wd D B cy s s.heap NL19 H locs → lv_has ls 5 [(4, .int (zI v4_19)), (3, .int (zI v3_4)), (2, .int (zI v2_19)), (0, .ref (B + 141)), (1, .ref (B + a))] → W p l e (rmm 2 42) s m args below meth c H locs 0 0 Q (F0 m 19 ls []) := by
          intro f
          induction f with
          | zero => intros; omega
          | succ f ih19 =>
            intro v4_19 v2_19  NL19 iv4_19 iv2_19 hIL19 hFL19 hf19 H locs ls w hl
            refine lv_iload hx hb dX7_writeLines_19 (lv_at hl 0 rfl) ?_
            refine z_if_eq (tgt := 68) hx hb (by omega) dX7_writeLines_21 (by decide) (fun c6 => ?_) (fun c6 => ?_)
            · refine z_iinc (v := (v3_4 + 1)) (lv' := [(3, .int (zI (v3_4 + 1))), (4, .int (zI v4_19)), (2, .int (zI v2_19)), (0, .ref (B + 141)), (1, .ref (B + a))]) hx hb dX7_writeLines_68 hl (k := 1) rfl (by omega) (by decide) rfl (fun ls hl => ?_)
              refine lv_goto (tgt := 4) hx hb dX7_writeLines_71 (by decide) ?_
              exact ih4 (v3_4 + 1) v2_19 NL19 (by omega) (by omega)    hIL19 hFL19 (by omega) _ _ _ w (lv_sub hl [0, 2, 3, 4] rfl)
            · refine lv_iload_n hx hb dX7_writeLines_24 rfl (lv_at hl 2 rfl) ?_
              refine z_if_ne (tgt := 34) hx hb (by omega) dX7_writeLines_25 (by decide) (fun c7 => ?_) (fun c7 => ?_)
              · refine lv_iconst (v := zI 0) hx hb dX7_writeLines_34 rfl ?_
                refine lv_istore_n (lv' := [(2, .int (zI 0)), (4, .int (zI v4_19)), (3, .int (zI v3_4)), (0, .ref (B + 141)), (1, .ref (B + a))]) hx hb dX7_writeLines_35 rfl hl (by decide) rfl (fun ls hl => ?_)
                refine lv_aload_n hx hb dX7_writeLines_36 rfl (lv_at hl 3 rfl) ?_
                refine lv_iload_n hx hb dX7_writeLines_37 rfl (lv_at hl 2 rfl) ?_
                refine k_Vv F w (As := [.int (zI v3_4)]) (rest := []) (a := 141) (kd_lt (a := 141) (show kd 141 = (7, 0, 0) from rfl) (by decide)) (sh_7 rfl _ _) rfl (q_X7_putNumber (x := v3_4) (by omega)  hIL19) gv_X7_49 hv_X7_putNumber ⟨(Nat.le_of_ble_eq_true rfl), (Nat.le_of_ble_eq_true rfl)⟩ hl.1 rfl (Nat.le_of_ble_eq_true rfl) ⟨Nat.zero_le _, Nat.zero_le _⟩ dX7_writeLines_38 (fun N9 H locs hp w => ?_)
                obtain ⟨hIN9, hFN9⟩ := hp
                have hGN9 := Fr.tr hFL19 hFN9 (S := (fun b9 k9 => (b9 = 141 ∧ k9 = 1) ∨ b9 = 142)) (fun b k h => by first | omega | (dsimp only at h ⊢; omega))
                refine lv_aload_n hx hb dX7_writeLines_41 rfl (lv_at hl 3 rfl) ?_
                refine lv_bipush (v := zI 58) hx hb dX7_writeLines_42 (by decide) ?_
                refine k_Vv F w (As := [.int (zI 58)]) (rest := []) (a := 141) (kd_lt (a := 141) (show kd 141 = (7, 0, 0) from rfl) (by decide)) (sh_7 rfl _ _) rfl (q_X7_put (x := 58) (by omega)  hIN9) gv_X7_28 hv_X7_put ⟨(Nat.le_of_ble_eq_true rfl), (Nat.le_of_ble_eq_true rfl)⟩ hl.1 rfl (Nat.le_of_ble_eq_true rfl) ⟨Nat.zero_le _, Nat.zero_le _⟩ dX7_writeLines_44 (fun N12 H locs hp w => ?_)
                obtain ⟨hIN12, hFN12⟩ := hp
                have hGN12 := Fr.tr hGN9 hFN12 (S := (fun b9 k9 => (b9 = 141 ∧ k9 = 1) ∨ b9 = 142)) (fun b k h => by first | omega | (dsimp only at h ⊢; omega))
                refine lv_aload_n hx hb dX7_writeLines_47 rfl (lv_at hl 3 rfl) ?_
                refine lv_iload hx hb dX7_writeLines_48 (lv_at hl 1 rfl) ?_
                refine k_Ni F w (As := [.int (zI v4_19)]) (rest := [.ref (B + 141)]) (q_lowest (x := v4_19) (by omega) ) gc_X11_lowest tb_95 tb_96 (by decide) hs_X11_lowest ⟨(Nat.le_of_ble_eq_true rfl), (Nat.le_of_ble_eq_true rfl)⟩ hl.1 rfl (Nat.le_of_ble_eq_true rfl) ⟨Nat.zero_le _, Nat.zero_le _⟩ dX7_writeLines_50 (fun r14 N15 H locs hp w => ?_)
                obtain ⟨hrz16, hMz16⟩ := hp
                rw [hMz16] at w
                obtain ⟨z16, bz16, xz16, ez16⟩ := low_ex v4_19 (by omega)
                refine r_val (hrz16.trans ez16) ?_
                refine k_Vv F w (As := [.int (zI z16)]) (rest := []) (a := 141) (kd_lt (a := 141) (show kd 141 = (7, 0, 0) from rfl) (by decide)) (sh_7 rfl _ _) rfl (q_X7_putNumber (x := z16) (by omega)  hIN12) gv_X7_49 hv_X7_putNumber ⟨(Nat.le_of_ble_eq_true rfl), (Nat.le_of_ble_eq_true rfl)⟩ hl.1 rfl (Nat.le_of_ble_eq_true rfl) ⟨Nat.zero_le _, Nat.zero_le _⟩ dX7_writeLines_53 (fun N18 H locs hp w => ?_)
                obtain ⟨hIN18, hFN18⟩ := hp
                have hGN18 := Fr.tr hGN12 hFN18 (S := (fun b9 k9 => (b9 = 141 ∧ k9 = 1) ∨ b9 = 142)) (fun b k h => by first | omega | (dsimp only at h ⊢; omega))
                refine lv_iload hx hb dX7_writeLines_56 (lv_at hl 1 rfl) ?_
                refine lv_iload hx hb dX7_writeLines_58 (lv_at hl 1 rfl) ?_
                refine lv_iconst (v := zI 1) hx hb dX7_writeLines_60 rfl ?_
                refine z_isub (z := (v4_19 - 1)) hx hb dX7_writeLines_61 (by omega) ?_
                obtain ⟨z20, bz20, x0z20, x1z20, ez20⟩ := and_ex v4_19 (v4_19 - 1) (by omega) (by omega)
                refine lv_iand hx hb dX7_writeLines_62 ?_
                refine r_val ez20 ?_
                refine lv_istore (lv' := [(4, .int (zI z20)), (2, .int (zI 0)), (3, .int (zI v3_4)), (0, .ref (B + 141)), (1, .ref (B + a))]) hx hb dX7_writeLines_63 hl (by decide) rfl (fun ls hl => ?_)
                refine lv_goto (tgt := 19) hx hb dX7_writeLines_65 (by decide) ?_
                exact ih19 z20 0 N18 (by omega) (by omega)    hIN18 hGN18 (by omega) _ _ _ w (lv_sub hl [0, 2, 1, 3, 4] rfl)
              · refine lv_aload_n hx hb dX7_writeLines_28 rfl (lv_at hl 3 rfl) ?_
                refine lv_bipush (v := zI 32) hx hb dX7_writeLines_29 (by decide) ?_
                refine k_Vv F w (As := [.int (zI 32)]) (rest := []) (a := 141) (kd_lt (a := 141) (show kd 141 = (7, 0, 0) from rfl) (by decide)) (sh_7 rfl _ _) rfl (q_X7_put (x := 32) (by omega)  hIL19) gv_X7_28 hv_X7_put ⟨(Nat.le_of_ble_eq_true rfl), (Nat.le_of_ble_eq_true rfl)⟩ hl.1 rfl (Nat.le_of_ble_eq_true rfl) ⟨Nat.zero_le _, Nat.zero_le _⟩ dX7_writeLines_31 (fun N22 H locs hp w => ?_)
                obtain ⟨hIN22, hFN22⟩ := hp
                have hGN22 := Fr.tr hFL19 hFN22 (S := (fun b9 k9 => (b9 = 141 ∧ k9 = 1) ∨ b9 = 142)) (fun b k h => by first | omega | (dsimp only at h ⊢; omega))
                refine lv_iconst (v := zI 0) hx hb dX7_writeLines_34 rfl ?_
                refine lv_istore_n (lv' := [(2, .int (zI 0)), (4, .int (zI v4_19)), (3, .int (zI v3_4)), (0, .ref (B + 141)), (1, .ref (B + a))]) hx hb dX7_writeLines_35 rfl hl (by decide) rfl (fun ls hl => ?_)
                refine lv_aload_n hx hb dX7_writeLines_36 rfl (lv_at hl 3 rfl) ?_
                refine lv_iload_n hx hb dX7_writeLines_37 rfl (lv_at hl 2 rfl) ?_
                refine k_Vv F w (As := [.int (zI v3_4)]) (rest := []) (a := 141) (kd_lt (a := 141) (show kd 141 = (7, 0, 0) from rfl) (by decide)) (sh_7 rfl _ _) rfl (q_X7_putNumber (x := v3_4) (by omega)  hIN22) gv_X7_49 hv_X7_putNumber ⟨(Nat.le_of_ble_eq_true rfl), (Nat.le_of_ble_eq_true rfl)⟩ hl.1 rfl (Nat.le_of_ble_eq_true rfl) ⟨Nat.zero_le _, Nat.zero_le _⟩ dX7_writeLines_38 (fun N25 H locs hp w => ?_)
                obtain ⟨hIN25, hFN25⟩ := hp
                have hGN25 := Fr.tr hGN22 hFN25 (S := (fun b9 k9 => (b9 = 141 ∧ k9 = 1) ∨ b9 = 142)) (fun b k h => by first | omega | (dsimp only at h ⊢; omega))
                refine lv_aload_n hx hb dX7_writeLines_41 rfl (lv_at hl 3 rfl) ?_
                refine lv_bipush (v := zI 58) hx hb dX7_writeLines_42 (by decide) ?_
                refine k_Vv F w (As := [.int (zI 58)]) (rest := []) (a := 141) (kd_lt (a := 141) (show kd 141 = (7, 0, 0) from rfl) (by decide)) (sh_7 rfl _ _) rfl (q_X7_put (x := 58) (by omega)  hIN25) gv_X7_28 hv_X7_put ⟨(Nat.le_of_ble_eq_true rfl), (Nat.le_of_ble_eq_true rfl)⟩ hl.1 rfl (Nat.le_of_ble_eq_true rfl) ⟨Nat.zero_le _, Nat.zero_le _⟩ dX7_writeLines_44 (fun N28 H locs hp w => ?_)
                obtain ⟨hIN28, hFN28⟩ := hp
                have hGN28 := Fr.tr hGN25 hFN28 (S := (fun b9 k9 => (b9 = 141 ∧ k9 = 1) ∨ b9 = 142)) (fun b k h => by first | omega | (dsimp only at h ⊢; omega))
                refine lv_aload_n hx hb dX7_writeLines_47 rfl (lv_at hl 3 rfl) ?_
                refine lv_iload hx hb dX7_writeLines_48 (lv_at hl 1 rfl) ?_
                refine k_Ni F w (As := [.int (zI v4_19)]) (rest := [.ref (B + 141)]) (q_lowest (x := v4_19) (by omega) ) gc_X11_lowest tb_95 tb_96 (by decide) hs_X11_lowest ⟨(Nat.le_of_ble_eq_true rfl), (Nat.le_of_ble_eq_true rfl)⟩ hl.1 rfl (Nat.le_of_ble_eq_true rfl) ⟨Nat.zero_le _, Nat.zero_le _⟩ dX7_writeLines_50 (fun r30 N31 H locs hp w => ?_)
                obtain ⟨hrz32, hMz32⟩ := hp
                rw [hMz32] at w
                obtain ⟨z32, bz32, xz32, ez32⟩ := low_ex v4_19 (by omega)
                refine r_val (hrz32.trans ez32) ?_
                refine k_Vv F w (As := [.int (zI z32)]) (rest := []) (a := 141) (kd_lt (a := 141) (show kd 141 = (7, 0, 0) from rfl) (by decide)) (sh_7 rfl _ _) rfl (q_X7_putNumber (x := z32) (by omega)  hIN28) gv_X7_49 hv_X7_putNumber ⟨(Nat.le_of_ble_eq_true rfl), (Nat.le_of_ble_eq_true rfl)⟩ hl.1 rfl (Nat.le_of_ble_eq_true rfl) ⟨Nat.zero_le _, Nat.zero_le _⟩ dX7_writeLines_53 (fun N34 H locs hp w => ?_)
                obtain ⟨hIN34, hFN34⟩ := hp
                have hGN34 := Fr.tr hGN28 hFN34 (S := (fun b9 k9 => (b9 = 141 ∧ k9 = 1) ∨ b9 = 142)) (fun b k h => by first | omega | (dsimp only at h ⊢; omega))
                refine lv_iload hx hb dX7_writeLines_56 (lv_at hl 1 rfl) ?_
                refine lv_iload hx hb dX7_writeLines_58 (lv_at hl 1 rfl) ?_
                refine lv_iconst (v := zI 1) hx hb dX7_writeLines_60 rfl ?_
                refine z_isub (z := (v4_19 - 1)) hx hb dX7_writeLines_61 (by omega) ?_
                obtain ⟨z36, bz36, x0z36, x1z36, ez36⟩ := and_ex v4_19 (v4_19 - 1) (by omega) (by omega)
                refine lv_iand hx hb dX7_writeLines_62 ?_
                refine r_val ez36 ?_
                refine lv_istore (lv' := [(4, .int (zI z36)), (2, .int (zI 0)), (3, .int (zI v3_4)), (0, .ref (B + 141)), (1, .ref (B + a))]) hx hb dX7_writeLines_63 hl (by decide) rfl (fun ls hl => ?_)
                refine lv_goto (tgt := 19) hx hb dX7_writeLines_65 (by decide) ?_
                exact ih19 z36 0 N34 (by omega) (by omega)    hIN34 hGN34 (by omega) _ _ _ w (lv_sub hl [0, 2, 1, 3, 4] rfl)
        exact lp19 _ z5 v2_4 NL4 (by omega) (by omega) hIL4 hFL4 (Nat.lt_succ_self _) _ _ _ w (lv_sub hl [0, 1, 2, 3, 4] rfl)
  exact lp4 _ 0 1 M (by omega) (by omega) hI hF (Nat.lt_succ_self _) _ _ _ w (lv_sub hl [0, 1, 2, 3] rfl)
theorem dX7_write_0 : decode cX7_write 0 = .ok (.aload_n 0, 1) := dq0 kk_42 (by decide +kernel)
theorem dX7_write_1 : decode cX7_write 1 = .ok (.iconst 0, 1) := dq0 kk_3 (by decide +kernel)
theorem dX7_write_2 : decode cX7_write 2 = .ok (.putfield 15, 3) := dqV kk_181 (by decide +kernel)
theorem dX7_write_5 : decode cX7_write 5 = .ok (.iconst 0, 1) := dq0 kk_3 (by decide +kernel)
theorem dX7_write_6 : decode cX7_write 6 = .ok (.istore_n 2, 1) := dq0 kk_61 (by decide +kernel)
theorem dX7_write_7 : decode cX7_write 7 = .ok (.iload_n 2, 1) := dq0 kk_28 (by decide +kernel)
theorem dX7_write_8 : decode cX7_write 8 = .ok (.aload_n 1, 1) := dq0 kk_43 (by decide +kernel)
theorem dX7_write_9 : decode cX7_write 9 = .ok (.getfield 19, 3) := dqV kk_180 (by decide +kernel)
theorem dX7_write_12 : decode cX7_write 12 = .ok (.if_icmp .ge 40, 3) := dqT kk_162 (by decide +kernel)
theorem dX7_write_52 : decode cX7_write 52 = .ok (.aload_n 0, 1) := dq0 kk_42 (by decide +kernel)
theorem dX7_write_53 : decode cX7_write 53 = .ok (.bipush 47, 2) := dqS kk_16 (by decide +kernel)
theorem dX7_write_55 : decode cX7_write 55 = .ok (.invokevirtual 28, 3) := dqV kk_182 (by decide +kernel)
theorem dX7_write_58 : decode cX7_write 58 = .ok (.iconst 0, 1) := dq0 kk_3 (by decide +kernel)
theorem dX7_write_59 : decode cX7_write 59 = .ok (.istore_n 2, 1) := dq0 kk_61 (by decide +kernel)
theorem dX7_write_60 : decode cX7_write 60 = .ok (.iload_n 2, 1) := dq0 kk_28 (by decide +kernel)
theorem dX7_write_61 : decode cX7_write 61 = .ok (.aload_n 1, 1) := dq0 kk_43 (by decide +kernel)
theorem dX7_write_62 : decode cX7_write 62 = .ok (.getfield 32, 3) := dqV kk_180 (by decide +kernel)
theorem tb_264 : Cond.fieldLink "ToneLines$Speller" 32 "ToneLines$Word" "syllables" "I" ∈ TB := tbm (tc1 (List.mem_of_getElem? (i := 135) rfl)) rfl
theorem dX7_write_65 : decode cX7_write 65 = .ok (.if_icmp .ge 42, 3) := dqT kk_162 (by decide +kernel)
theorem dX7_write_107 : decode cX7_write 107 = .ok (.aload_n 0, 1) := dq0 kk_42 (by decide +kernel)
theorem dX7_write_108 : decode cX7_write 108 = .ok (.bipush 47, 2) := dqS kk_16 (by decide +kernel)
theorem dX7_write_110 : decode cX7_write 110 = .ok (.invokevirtual 28, 3) := dqV kk_182 (by decide +kernel)
theorem dX7_write_113 : decode cX7_write 113 = .ok (.aload_n 0, 1) := dq0 kk_42 (by decide +kernel)
theorem dX7_write_114 : decode cX7_write 114 = .ok (.aload_n 1, 1) := dq0 kk_43 (by decide +kernel)
theorem dX7_write_115 : decode cX7_write 115 = .ok (.invokevirtual 42, 3) := dqV kk_182 (by decide +kernel)
theorem tk_X7_writeLines : Cond.code yX7_writeLines cX7_writeLines 5 none ∈ TB := tbm (tc4 (List.mem_of_getElem? (i := 195) rfl)) rfl
theorem gc_X7_writeLines : GoodIn TB (cw yX7_writeLines cX7_writeLines 5 none) := goodIn_c2 tk_X7_writeLines
theorem tb_265 : Cond.methodLink "ToneLines$Speller" 42 yX7_writeLines ∈ TB := tbm (tc4 (List.mem_of_getElem? (i := 192) rfl)) rfl
theorem tb_266 : Cond.instanceMethod yX7_writeLines ∈ TB := tbm (tc4 (List.mem_of_getElem? (i := 194) rfl)) rfl
theorem tb_267 : Cond.selects "ToneLines$Speller" yX7_writeLines yX7_writeLines ∈ TB := tbp (List.mem_of_getElem? (i := 31) rfl) rfl
theorem gv_X7_42 : GoodIn TB (wsV RX7 42 RX7 yX7_writeLines (cw yX7_writeLines cX7_writeLines 5 none)) := goodIn_4 tb_265 tb_266 tb_267 tb_258 gc_X7_writeLines
theorem hv_X7_writeLines : yX7_writeLines.cls = RX7 ∧ yX7_writeLines.cls ≠ "java/lang/invoke/MethodHandle" ∧ yX7_writeLines.cls ≠ "java/lang/invoke/VarHandle" ∧ (parseMethodDescriptor yX7_writeLines.desc).map (fun d => d.parameters.length) = some 1 := by decide +kernel
theorem dX7_write_118 : decode cX7_write 118 = .ok (.return_, 1) := dq0 kk_177 (by decide +kernel)
theorem dX7_write_68 : decode cX7_write 68 = .ok (.aload_n 1, 1) := dq0 kk_43 (by decide +kernel)
theorem dX7_write_69 : decode cX7_write 69 = .ok (.iload_n 2, 1) := dq0 kk_28 (by decide +kernel)
theorem dX7_write_70 : decode cX7_write 70 = .ok (.invokevirtual 35, 3) := dqV kk_182 (by decide +kernel)
theorem tb_268 : Cond.methodLink "ToneLines$Speller" 35 yX9_hasEdge ∈ TB := tbm (tc4 (List.mem_of_getElem? (i := 190) rfl)) rfl
theorem gv_X7_35 : GoodIn TB (wsV RX7 35 RX9 yX9_hasEdge (cw yX9_hasEdge cX9_hasEdge 2 (some .boolean))) := goodIn_4 tb_268 tb_99 tb_100 tb_5 gc_X9_hasEdge
theorem dX7_write_73 : decode cX7_write 73 = .ok (.ifCond .eq 9, 3) := dqT kk_153 (by decide +kernel)
theorem dX7_write_82 : decode cX7_write 82 = .ok (.aload_n 0, 1) := dq0 kk_42 (by decide +kernel)
theorem dX7_write_83 : decode cX7_write 83 = .ok (.aload_n 1, 1) := dq0 kk_43 (by decide +kernel)
theorem dX7_write_84 : decode cX7_write 84 = .ok (.iload_n 2, 1) := dq0 kk_28 (by decide +kernel)
theorem dX7_write_85 : decode cX7_write 85 = .ok (.invokevirtual 39, 3) := dqV kk_182 (by decide +kernel)
theorem tb_269 : Cond.methodLink "ToneLines$Speller" 39 yX9_isHeavy ∈ TB := tbm (tc4 (List.mem_of_getElem? (i := 191) rfl)) rfl
theorem gv_X7_39 : GoodIn TB (wsV RX7 39 RX9 yX9_isHeavy (cw yX9_isHeavy cX9_isHeavy 2 (some .boolean))) := goodIn_4 tb_269 tb_114 tb_115 tb_5 gc_X9_isHeavy
theorem dX7_write_88 : decode cX7_write 88 = .ok (.ifCond .eq 8, 3) := dqT kk_153 (by decide +kernel)
theorem dX7_write_96 : decode cX7_write 96 = .ok (.bipush 111, 2) := dqS kk_16 (by decide +kernel)
theorem dX7_write_98 : decode cX7_write 98 = .ok (.invokevirtual 28, 3) := dqV kk_182 (by decide +kernel)
theorem dX7_write_101 : decode cX7_write 101 = .ok (.iinc 2 1, 3) := dqI kk_132 (by decide +kernel)
theorem dX7_write_104 : decode cX7_write 104 = .ok (.goto (-44), 3) := dqT kk_167 (by decide +kernel)
theorem dX7_write_91 : decode cX7_write 91 = .ok (.bipush 79, 2) := dqS kk_16 (by decide +kernel)
theorem dX7_write_93 : decode cX7_write 93 = .ok (.goto 5, 3) := dqT kk_167 (by decide +kernel)
theorem dX7_write_76 : decode cX7_write 76 = .ok (.aload_n 0, 1) := dq0 kk_42 (by decide +kernel)
theorem dX7_write_77 : decode cX7_write 77 = .ok (.bipush 45, 2) := dqS kk_16 (by decide +kernel)
theorem dX7_write_79 : decode cX7_write 79 = .ok (.invokevirtual 28, 3) := dqV kk_182 (by decide +kernel)
theorem dX7_write_15 : decode cX7_write 15 = .ok (.aload_n 1, 1) := dq0 kk_43 (by decide +kernel)
theorem dX7_write_16 : decode cX7_write 16 = .ok (.iload_n 2, 1) := dq0 kk_28 (by decide +kernel)
theorem dX7_write_17 : decode cX7_write 17 = .ok (.invokevirtual 24, 3) := dqV kk_182 (by decide +kernel)
theorem tb_270 : Cond.methodLink "ToneLines$Speller" 24 yX9_kindOf ∈ TB := tbm (tc4 (List.mem_of_getElem? (i := 185) rfl)) rfl
theorem gv_X7_24 : GoodIn TB (wsV RX7 24 RX9 yX9_kindOf (cw yX9_kindOf cX9_kindOf 2 (some .int))) := goodIn_4 tb_270 tb_83 tb_84 tb_5 gc_X9_kindOf
theorem dX7_write_20 : decode cX7_write 20 = .ok (.istore_n 3, 1) := dq0 kk_62 (by decide +kernel)
theorem dX7_write_21 : decode cX7_write 21 = .ok (.aload_n 0, 1) := dq0 kk_42 (by decide +kernel)
theorem dX7_write_22 : decode cX7_write 22 = .ok (.iload_n 3, 1) := dq0 kk_29 (by decide +kernel)
theorem dX7_write_23 : decode cX7_write 23 = .ok (.iconst 2, 1) := dq0 kk_5 (by decide +kernel)
theorem dX7_write_24 : decode cX7_write 24 = .ok (.if_icmp .ne 8, 3) := dqT kk_160 (by decide +kernel)
theorem dX7_write_32 : decode cX7_write 32 = .ok (.iload_n 3, 1) := dq0 kk_29 (by decide +kernel)
theorem dX7_write_33 : decode cX7_write 33 = .ok (.ifCond .ne 8, 3) := dqT kk_154 (by decide +kernel)
theorem dX7_write_41 : decode cX7_write 41 = .ok (.bipush 109, 2) := dqS kk_16 (by decide +kernel)
theorem dX7_write_43 : decode cX7_write 43 = .ok (.invokevirtual 28, 3) := dqV kk_182 (by decide +kernel)
theorem dX7_write_46 : decode cX7_write 46 = .ok (.iinc 2 1, 3) := dqI kk_132 (by decide +kernel)
theorem dX7_write_49 : decode cX7_write 49 = .ok (.goto (-42), 3) := dqT kk_167 (by decide +kernel)
theorem dX7_write_36 : decode cX7_write 36 = .ok (.bipush 108, 2) := dqS kk_16 (by decide +kernel)
theorem dX7_write_38 : decode cX7_write 38 = .ok (.goto 5, 3) := dqT kk_167 (by decide +kernel)
theorem dX7_write_27 : decode cX7_write 27 = .ok (.bipush 104, 2) := dqS kk_16 (by decide +kernel)
theorem dX7_write_29 : decode cX7_write 29 = .ok (.goto 14, 3) := dqT kk_167 (by decide +kernel)
set_option maxRecDepth 4000 in
theorem q_X7_write {l : Launch} {D : va_G} {B : Nat} {cy : Nat → ClassId} {M : Mem} {a : Nat} (hka : kd a = (9, 0, 0)) (hI : Inv M) : Cv l D B cy yX7_write cX7_write 4 3 66 [.ref (B + 141), .ref (B + a)] M (fun M1 => Inv M1 ∧ Fr (fun b9 k9 => (b9 = 141 ∧ k9 = 1) ∨ b9 = 142) M1 M) := by
  refine s_anyQ (by decide) (Nat.le_of_ble_eq_true rfl) ?_
  intro p e s m args below meth c ls Q F hr hlocks hQ w hl
  have F : CallFix p m c cX7_write 4 s args TB RX7 := F
  have hx := F.1
  have hb := F.2.1
  have hl : lv_has ls 4 [(0, .ref (B + 141)), (1, .ref (B + a))] := hl
  have hF : Fr (fun b9 k9 => (b9 = 141 ∧ k9 = 1) ∨ b9 = 142) M M := Fr.rf
  refine lv_aload_n hx hb dX7_write_0 rfl (lv_at hl 0 rfl) ?_
  refine lv_iconst (v := zI 0) hx hb dX7_write_1 rfl ?_
  refine u_7_1 F w (a := 141) rfl tb_253 dX7_write_2 (fun H locs w => ?_)
  refine lv_iconst (v := zI 0) hx hb dX7_write_5 rfl ?_
  refine lv_istore_n (lv' := [(2, .int (zI 0)), (0, .ref (B + 141)), (1, .ref (B + a))]) hx hb dX7_write_6 rfl hl (by decide) rfl (fun ls hl => ?_)
  have lp7 : ∀ (f : Nat) (v2_7 : Int)  (NL7 : Mem), (0 ≤ v2_7 ∧ v2_7 ≤ 12) → Inv NL7 → Fr (fun b9 k9 => (b9 = 141 ∧ k9 = 1) ∨ b9 = 142) NL7 M → (Int.toNat (12 - v2_7) < f) → ∀ (H : Heap) (locs : List Loc) (ls : Array Slot), Wd D B cy s s.heap NL7 H locs → lv_has ls 4 [(2, .int (zI v2_7)), (0, .ref (B + 141)), (1, .ref (B + a))] → W p l e (rmm 3 66) s m args below meth c H locs 0 0 Q (F0 m 7 ls []) := by
    intro f
    induction f with
    | zero => intros; omega
    | succ f ih7 =>
      intro v2_7  NL7 iv2_7 hIL7 hFL7 hf7 H locs ls w hl
      refine lv_iload_n hx hb dX7_write_7 rfl (lv_at hl 0 rfl) ?_
      refine lv_aload_n hx hb dX7_write_8 rfl (lv_at hl 2 rfl) ?_
      refine f_9_0 F w (a := a) hka tb_259 dX7_write_9 ?_
      obtain ⟨z1, bz1, ez1⟩ := Inv.ld (k := 0) hIL7 (iv_w0 hka) (by have := lt_w hka; omega)
      refine r_val ez1 ?_
      refine z_icmp_ge (tgt := 52) hx hb (by omega) (by omega) dX7_write_12 (by decide) (fun c2 => ?_) (fun c2 => ?_)
      · refine lv_aload_n hx hb dX7_write_52 rfl (lv_at hl 1 rfl) ?_
        refine lv_bipush (v := zI 47) hx hb dX7_write_53 (by decide) ?_
        refine k_Vv F w (As := [.int (zI 47)]) (rest := []) (a := 141) (kd_lt (a := 141) (show kd 141 = (7, 0, 0) from rfl) (by decide)) (sh_7 rfl _ _) rfl (q_X7_put (x := 47) (by omega)  hIL7) gv_X7_28 hv_X7_put ⟨(Nat.le_of_ble_eq_true rfl), (Nat.le_of_ble_eq_true rfl)⟩ hl.1 rfl (Nat.le_of_ble_eq_true rfl) ⟨Nat.zero_le _, Nat.zero_le _⟩ dX7_write_55 (fun N4 H locs hp w => ?_)
        obtain ⟨hIN4, hFN4⟩ := hp
        have hGN4 := Fr.tr hFL7 hFN4 (S := (fun b9 k9 => (b9 = 141 ∧ k9 = 1) ∨ b9 = 142)) (fun b k h => by first | omega | (dsimp only at h ⊢; omega))
        refine lv_iconst (v := zI 0) hx hb dX7_write_58 rfl ?_
        refine lv_istore_n (lv' := [(2, .int (zI 0)), (0, .ref (B + 141)), (1, .ref (B + a))]) hx hb dX7_write_59 rfl hl (by decide) rfl (fun ls hl => ?_)
        have lp60 : ∀ (f : Nat) (v2_60 : Int)  (NL60 : Mem), (0 ≤ v2_60 ∧ v2_60 ≤ 12) → Inv NL60 → Fr (fun b9 k9 => (b9 = 141 ∧ k9 = 1) ∨ b9 = 142) NL60 M → (Int.toNat (12 - v2_60) < f) → ∀ (H : Heap) (locs : List Loc) (ls : Array Slot), Wd D B cy s s.heap NL60 H locs → lv_has ls 4 [(2, .int (zI v2_60)), (0, .ref (B + 141)), (1, .ref (B + a))] → W p l e (rmm 3 66) s m args below meth c H locs 0 0 Q (F0 m 60 ls []) := by
          intro f
          induction f with
          | zero => intros; omega
          | succ f ih60 =>
            intro v2_60  NL60 iv2_60 hIL60 hFL60 hf60 H locs ls w hl
            refine lv_iload_n hx hb dX7_write_60 rfl (lv_at hl 0 rfl) ?_
            refine lv_aload_n hx hb dX7_write_61 rfl (lv_at hl 2 rfl) ?_
            refine f_9_1 F w (a := a) hka tb_264 dX7_write_62 ?_
            obtain ⟨z6, bz6, ez6⟩ := Inv.ld (k := 1) hIL60 (iv_w1 hka) (by have := lt_w hka; omega)
            refine r_val ez6 ?_
            refine z_icmp_ge (tgt := 107) hx hb (by omega) (by omega) dX7_write_65 (by decide) (fun c7 => ?_) (fun c7 => ?_)
            · refine lv_aload_n hx hb dX7_write_107 rfl (lv_at hl 1 rfl) ?_
              refine lv_bipush (v := zI 47) hx hb dX7_write_108 (by decide) ?_
              refine k_Vv F w (As := [.int (zI 47)]) (rest := []) (a := 141) (kd_lt (a := 141) (show kd 141 = (7, 0, 0) from rfl) (by decide)) (sh_7 rfl _ _) rfl (q_X7_put (x := 47) (by omega)  hIL60) gv_X7_28 hv_X7_put ⟨(Nat.le_of_ble_eq_true rfl), (Nat.le_of_ble_eq_true rfl)⟩ hl.1 rfl (Nat.le_of_ble_eq_true rfl) ⟨Nat.zero_le _, Nat.zero_le _⟩ dX7_write_110 (fun N9 H locs hp w => ?_)
              obtain ⟨hIN9, hFN9⟩ := hp
              have hGN9 := Fr.tr hFL60 hFN9 (S := (fun b9 k9 => (b9 = 141 ∧ k9 = 1) ∨ b9 = 142)) (fun b k h => by first | omega | (dsimp only at h ⊢; omega))
              refine lv_aload_n hx hb dX7_write_113 rfl (lv_at hl 1 rfl) ?_
              refine lv_aload_n hx hb dX7_write_114 rfl (lv_at hl 2 rfl) ?_
              refine k_Vv F w (As := [.ref (B + a)]) (rest := []) (a := 141) (kd_lt (a := 141) (show kd 141 = (7, 0, 0) from rfl) (by decide)) (sh_7 rfl _ _) rfl (q_X7_writeLines (a := a) hka  hIN9) gv_X7_42 hv_X7_writeLines ⟨(Nat.le_of_ble_eq_true rfl), (Nat.le_of_ble_eq_true rfl)⟩ hl.1 rfl (Nat.le_of_ble_eq_true rfl) ⟨Nat.zero_le _, Nat.zero_le _⟩ dX7_write_115 (fun N12 H locs hp w => ?_)
              obtain ⟨hIN12, hFN12⟩ := hp
              have hGN12 := Fr.tr hGN9 hFN12 (S := (fun b9 k9 => (b9 = 141 ∧ k9 = 1) ∨ b9 = 142)) (fun b k h => by first | omega | (dsimp only at h ⊢; omega))
              rw [hQ]
              exact e_v F w hr hlocks ⟨hIN12, hGN12⟩ dX7_write_118
            · refine lv_aload_n hx hb dX7_write_68 rfl (lv_at hl 2 rfl) ?_
              refine lv_iload_n hx hb dX7_write_69 rfl (lv_at hl 0 rfl) ?_
              refine k_Vi F w (As := [.int (zI v2_60)]) (rest := []) (a := a) (kd_lt (a := a) hka (by decide)) (sh_9 hka _ _) rfl (q_X9_hasEdge (a := a) hka (y := v2_60) (by omega)  hIL60) gv_X7_35 hv_X9_hasEdge ⟨(Nat.le_of_ble_eq_true rfl), (Nat.le_of_ble_eq_true rfl)⟩ hl.1 rfl (Nat.le_of_ble_eq_true rfl) ⟨Nat.zero_le _, Nat.zero_le _⟩ dX7_write_70 (fun r14 N15 H locs hp w => ?_)
              obtain ⟨z16, rfl, bz16, xz16, hMN15⟩ := hp
              rw [hMN15] at w
              refine z_if_eq (tgt := 82) hx hb (by omega) dX7_write_73 (by decide) (fun c17 => ?_) (fun c17 => ?_)
              · refine lv_aload_n hx hb dX7_write_82 rfl (lv_at hl 1 rfl) ?_
                refine lv_aload_n hx hb dX7_write_83 rfl (lv_at hl 2 rfl) ?_
                refine lv_iload_n hx hb dX7_write_84 rfl (lv_at hl 0 rfl) ?_
                refine k_Vi F w (As := [.int (zI v2_60)]) (rest := [.ref (B + 141)]) (a := a) (kd_lt (a := a) hka (by decide)) (sh_9 hka _ _) rfl (q_X9_isHeavy (a := a) hka (y := v2_60) (by omega)  hIL60) gv_X7_39 hv_X9_isHeavy ⟨(Nat.le_of_ble_eq_true rfl), (Nat.le_of_ble_eq_true rfl)⟩ hl.1 rfl (Nat.le_of_ble_eq_true rfl) ⟨Nat.zero_le _, Nat.zero_le _⟩ dX7_write_85 (fun r18 N19 H locs hp w => ?_)
                obtain ⟨z20, rfl, bz20, xz20, hMN19⟩ := hp
                rw [hMN19] at w
                refine z_if_eq (tgt := 96) hx hb (by omega) dX7_write_88 (by decide) (fun c21 => ?_) (fun c21 => ?_)
                · refine lv_bipush (v := zI 111) hx hb dX7_write_96 (by decide) ?_
                  refine k_Vv F w (As := [.int (zI 111)]) (rest := []) (a := 141) (kd_lt (a := 141) (show kd 141 = (7, 0, 0) from rfl) (by decide)) (sh_7 rfl _ _) rfl (q_X7_put (x := 111) (by omega)  hIL60) gv_X7_28 hv_X7_put ⟨(Nat.le_of_ble_eq_true rfl), (Nat.le_of_ble_eq_true rfl)⟩ hl.1 rfl (Nat.le_of_ble_eq_true rfl) ⟨Nat.zero_le _, Nat.zero_le _⟩ dX7_write_98 (fun N23 H locs hp w => ?_)
                  obtain ⟨hIN23, hFN23⟩ := hp
                  have hGN23 := Fr.tr hFL60 hFN23 (S := (fun b9 k9 => (b9 = 141 ∧ k9 = 1) ∨ b9 = 142)) (fun b k h => by first | omega | (dsimp only at h ⊢; omega))
                  refine z_iinc (v := (v2_60 + 1)) (lv' := [(2, .int (zI (v2_60 + 1))), (0, .ref (B + 141)), (1, .ref (B + a))]) hx hb dX7_write_101 hl (k := 0) rfl (by omega) (by decide) rfl (fun ls hl => ?_)
                  refine lv_goto (tgt := 60) hx hb dX7_write_104 (by decide) ?_
                  exact ih60 (v2_60 + 1) N23 (by omega)    hIN23 hGN23 (by omega) _ _ _ w (lv_sub hl [0, 1, 2] rfl)
                · refine lv_bipush (v := zI 79) hx hb dX7_write_91 (by decide) ?_
                  refine lv_goto (tgt := 98) hx hb dX7_write_93 (by decide) ?_
                  refine k_Vv F w (As := [.int (zI 79)]) (rest := []) (a := 141) (kd_lt (a := 141) (show kd 141 = (7, 0, 0) from rfl) (by decide)) (sh_7 rfl _ _) rfl (q_X7_put (x := 79) (by omega)  hIL60) gv_X7_28 hv_X7_put ⟨(Nat.le_of_ble_eq_true rfl), (Nat.le_of_ble_eq_true rfl)⟩ hl.1 rfl (Nat.le_of_ble_eq_true rfl) ⟨Nat.zero_le _, Nat.zero_le _⟩ dX7_write_98 (fun N26 H locs hp w => ?_)
                  obtain ⟨hIN26, hFN26⟩ := hp
                  have hGN26 := Fr.tr hFL60 hFN26 (S := (fun b9 k9 => (b9 = 141 ∧ k9 = 1) ∨ b9 = 142)) (fun b k h => by first | omega | (dsimp only at h ⊢; omega))
                  refine z_iinc (v := (v2_60 + 1)) (lv' := [(2, .int (zI (v2_60 + 1))), (0, .ref (B + 141)), (1, .ref (B + a))]) hx hb dX7_write_101 hl (k := 0) rfl (by omega) (by decide) rfl (fun ls hl => ?_)
                  refine lv_goto (tgt := 60) hx hb dX7_write_104 (by decide) ?_
                  exact ih60 (v2_60 + 1) N26 (by omega)    hIN26 hGN26 (by omega) _ _ _ w (lv_sub hl [0, 1, 2] rfl)
              · refine lv_aload_n hx hb dX7_write_76 rfl (lv_at hl 1 rfl) ?_
                refine lv_bipush (v := zI 45) hx hb dX7_write_77 (by decide) ?_
                refine k_Vv F w (As := [.int (zI 45)]) (rest := []) (a := 141) (kd_lt (a := 141) (show kd 141 = (7, 0, 0) from rfl) (by decide)) (sh_7 rfl _ _) rfl (q_X7_put (x := 45) (by omega)  hIL60) gv_X7_28 hv_X7_put ⟨(Nat.le_of_ble_eq_true rfl), (Nat.le_of_ble_eq_true rfl)⟩ hl.1 rfl (Nat.le_of_ble_eq_true rfl) ⟨Nat.zero_le _, Nat.zero_le _⟩ dX7_write_79 (fun N29 H locs hp w => ?_)
                obtain ⟨hIN29, hFN29⟩ := hp
                have hGN29 := Fr.tr hFL60 hFN29 (S := (fun b9 k9 => (b9 = 141 ∧ k9 = 1) ∨ b9 = 142)) (fun b k h => by first | omega | (dsimp only at h ⊢; omega))
                refine lv_aload_n hx hb dX7_write_82 rfl (lv_at hl 1 rfl) ?_
                refine lv_aload_n hx hb dX7_write_83 rfl (lv_at hl 2 rfl) ?_
                refine lv_iload_n hx hb dX7_write_84 rfl (lv_at hl 0 rfl) ?_
                refine k_Vi F w (As := [.int (zI v2_60)]) (rest := [.ref (B + 141)]) (a := a) (kd_lt (a := a) hka (by decide)) (sh_9 hka _ _) rfl (q_X9_isHeavy (a := a) hka (y := v2_60) (by omega)  hIN29) gv_X7_39 hv_X9_isHeavy ⟨(Nat.le_of_ble_eq_true rfl), (Nat.le_of_ble_eq_true rfl)⟩ hl.1 rfl (Nat.le_of_ble_eq_true rfl) ⟨Nat.zero_le _, Nat.zero_le _⟩ dX7_write_85 (fun r31 N32 H locs hp w => ?_)
                obtain ⟨z33, rfl, bz33, xz33, hMN32⟩ := hp
                rw [hMN32] at w
                refine z_if_eq (tgt := 96) hx hb (by omega) dX7_write_88 (by decide) (fun c34 => ?_) (fun c34 => ?_)
                · refine lv_bipush (v := zI 111) hx hb dX7_write_96 (by decide) ?_
                  refine k_Vv F w (As := [.int (zI 111)]) (rest := []) (a := 141) (kd_lt (a := 141) (show kd 141 = (7, 0, 0) from rfl) (by decide)) (sh_7 rfl _ _) rfl (q_X7_put (x := 111) (by omega)  hIN29) gv_X7_28 hv_X7_put ⟨(Nat.le_of_ble_eq_true rfl), (Nat.le_of_ble_eq_true rfl)⟩ hl.1 rfl (Nat.le_of_ble_eq_true rfl) ⟨Nat.zero_le _, Nat.zero_le _⟩ dX7_write_98 (fun N36 H locs hp w => ?_)
                  obtain ⟨hIN36, hFN36⟩ := hp
                  have hGN36 := Fr.tr hGN29 hFN36 (S := (fun b9 k9 => (b9 = 141 ∧ k9 = 1) ∨ b9 = 142)) (fun b k h => by first | omega | (dsimp only at h ⊢; omega))
                  refine z_iinc (v := (v2_60 + 1)) (lv' := [(2, .int (zI (v2_60 + 1))), (0, .ref (B + 141)), (1, .ref (B + a))]) hx hb dX7_write_101 hl (k := 0) rfl (by omega) (by decide) rfl (fun ls hl => ?_)
                  refine lv_goto (tgt := 60) hx hb dX7_write_104 (by decide) ?_
                  exact ih60 (v2_60 + 1) N36 (by omega)    hIN36 hGN36 (by omega) _ _ _ w (lv_sub hl [0, 1, 2] rfl)
                · refine lv_bipush (v := zI 79) hx hb dX7_write_91 (by decide) ?_
                  refine lv_goto (tgt := 98) hx hb dX7_write_93 (by decide) ?_
                  refine k_Vv F w (As := [.int (zI 79)]) (rest := []) (a := 141) (kd_lt (a := 141) (show kd 141 = (7, 0, 0) from rfl) (by decide)) (sh_7 rfl _ _) rfl (q_X7_put (x := 79) (by omega)  hIN29) gv_X7_28 hv_X7_put ⟨(Nat.le_of_ble_eq_true rfl), (Nat.le_of_ble_eq_true rfl)⟩ hl.1 rfl (Nat.le_of_ble_eq_true rfl) ⟨Nat.zero_le _, Nat.zero_le _⟩ dX7_write_98 (fun N39 H locs hp w => ?_)
                  obtain ⟨hIN39, hFN39⟩ := hp
                  have hGN39 := Fr.tr hGN29 hFN39 (S := (fun b9 k9 => (b9 = 141 ∧ k9 = 1) ∨ b9 = 142)) (fun b k h => by first | omega | (dsimp only at h ⊢; omega))
                  refine z_iinc (v := (v2_60 + 1)) (lv' := [(2, .int (zI (v2_60 + 1))), (0, .ref (B + 141)), (1, .ref (B + a))]) hx hb dX7_write_101 hl (k := 0) rfl (by omega) (by decide) rfl (fun ls hl => ?_)
                  refine lv_goto (tgt := 60) hx hb dX7_write_104 (by decide) ?_
                  exact ih60 (v2_60 + 1) N39 (by omega)    hIN39 hGN39 (by omega) _ _ _ w (lv_sub hl [0, 1, 2] rfl)
        exact lp60 _ 0 N4 (by omega) hIN4 hGN4 (Nat.lt_succ_self _) _ _ _ w (lv_sub hl [0, 1, 2] rfl)
      · refine lv_aload_n hx hb dX7_write_15 rfl (lv_at hl 2 rfl) ?_
        refine lv_iload_n hx hb dX7_write_16 rfl (lv_at hl 0 rfl) ?_
        refine k_Vi F w (As := [.int (zI v2_7)]) (rest := []) (a := a) (kd_lt (a := a) hka (by decide)) (sh_9 hka _ _) rfl (q_X9_kindOf (a := a) hka (t := v2_7) (by omega)  hIL7) gv_X7_24 hv_X9_kindOf ⟨(Nat.le_of_ble_eq_true rfl), (Nat.le_of_ble_eq_true rfl)⟩ hl.1 rfl (Nat.le_of_ble_eq_true rfl) ⟨Nat.zero_le _, Nat.zero_le _⟩ dX7_write_17 (fun r41 N42 H locs hp w => ?_)
        obtain ⟨z43, rfl, bz43, hMN42⟩ := hp
        rw [hMN42] at w
        refine lv_istore_n (lv' := [(3, .int (zI z43)), (2, .int (zI v2_7)), (0, .ref (B + 141)), (1, .ref (B + a))]) hx hb dX7_write_20 rfl hl (by decide) rfl (fun ls hl => ?_)
        refine lv_aload_n hx hb dX7_write_21 rfl (lv_at hl 2 rfl) ?_
        refine lv_iload_n hx hb dX7_write_22 rfl (lv_at hl 0 rfl) ?_
        refine lv_iconst (v := zI 2) hx hb dX7_write_23 rfl ?_
        refine z_icmp_ne (tgt := 32) hx hb (by omega) (by omega) dX7_write_24 (by decide) (fun c44 => ?_) (fun c44 => ?_)
        · refine lv_iload_n hx hb dX7_write_32 rfl (lv_at hl 0 rfl) ?_
          refine z_if_ne (tgt := 41) hx hb (by omega) dX7_write_33 (by decide) (fun c45 => ?_) (fun c45 => ?_)
          · refine lv_bipush (v := zI 109) hx hb dX7_write_41 (by decide) ?_
            refine k_Vv F w (As := [.int (zI 109)]) (rest := []) (a := 141) (kd_lt (a := 141) (show kd 141 = (7, 0, 0) from rfl) (by decide)) (sh_7 rfl _ _) rfl (q_X7_put (x := 109) (by omega)  hIL7) gv_X7_28 hv_X7_put ⟨(Nat.le_of_ble_eq_true rfl), (Nat.le_of_ble_eq_true rfl)⟩ hl.1 rfl (Nat.le_of_ble_eq_true rfl) ⟨Nat.zero_le _, Nat.zero_le _⟩ dX7_write_43 (fun N47 H locs hp w => ?_)
            obtain ⟨hIN47, hFN47⟩ := hp
            have hGN47 := Fr.tr hFL7 hFN47 (S := (fun b9 k9 => (b9 = 141 ∧ k9 = 1) ∨ b9 = 142)) (fun b k h => by first | omega | (dsimp only at h ⊢; omega))
            refine z_iinc (v := (v2_7 + 1)) (lv' := [(2, .int (zI (v2_7 + 1))), (3, .int (zI z43)), (0, .ref (B + 141)), (1, .ref (B + a))]) hx hb dX7_write_46 hl (k := 1) rfl (by omega) (by decide) rfl (fun ls hl => ?_)
            refine lv_goto (tgt := 7) hx hb dX7_write_49 (by decide) ?_
            exact ih7 (v2_7 + 1) N47 (by omega)    hIN47 hGN47 (by omega) _ _ _ w (lv_sub hl [0, 2, 3] rfl)
          · refine lv_bipush (v := zI 108) hx hb dX7_write_36 (by decide) ?_
            refine lv_goto (tgt := 43) hx hb dX7_write_38 (by decide) ?_
            refine k_Vv F w (As := [.int (zI 108)]) (rest := []) (a := 141) (kd_lt (a := 141) (show kd 141 = (7, 0, 0) from rfl) (by decide)) (sh_7 rfl _ _) rfl (q_X7_put (x := 108) (by omega)  hIL7) gv_X7_28 hv_X7_put ⟨(Nat.le_of_ble_eq_true rfl), (Nat.le_of_ble_eq_true rfl)⟩ hl.1 rfl (Nat.le_of_ble_eq_true rfl) ⟨Nat.zero_le _, Nat.zero_le _⟩ dX7_write_43 (fun N50 H locs hp w => ?_)
            obtain ⟨hIN50, hFN50⟩ := hp
            have hGN50 := Fr.tr hFL7 hFN50 (S := (fun b9 k9 => (b9 = 141 ∧ k9 = 1) ∨ b9 = 142)) (fun b k h => by first | omega | (dsimp only at h ⊢; omega))
            refine z_iinc (v := (v2_7 + 1)) (lv' := [(2, .int (zI (v2_7 + 1))), (3, .int (zI z43)), (0, .ref (B + 141)), (1, .ref (B + a))]) hx hb dX7_write_46 hl (k := 1) rfl (by omega) (by decide) rfl (fun ls hl => ?_)
            refine lv_goto (tgt := 7) hx hb dX7_write_49 (by decide) ?_
            exact ih7 (v2_7 + 1) N50 (by omega)    hIN50 hGN50 (by omega) _ _ _ w (lv_sub hl [0, 2, 3] rfl)
        · refine lv_bipush (v := zI 104) hx hb dX7_write_27 (by decide) ?_
          refine lv_goto (tgt := 43) hx hb dX7_write_29 (by decide) ?_
          refine k_Vv F w (As := [.int (zI 104)]) (rest := []) (a := 141) (kd_lt (a := 141) (show kd 141 = (7, 0, 0) from rfl) (by decide)) (sh_7 rfl _ _) rfl (q_X7_put (x := 104) (by omega)  hIL7) gv_X7_28 hv_X7_put ⟨(Nat.le_of_ble_eq_true rfl), (Nat.le_of_ble_eq_true rfl)⟩ hl.1 rfl (Nat.le_of_ble_eq_true rfl) ⟨Nat.zero_le _, Nat.zero_le _⟩ dX7_write_43 (fun N53 H locs hp w => ?_)
          obtain ⟨hIN53, hFN53⟩ := hp
          have hGN53 := Fr.tr hFL7 hFN53 (S := (fun b9 k9 => (b9 = 141 ∧ k9 = 1) ∨ b9 = 142)) (fun b k h => by first | omega | (dsimp only at h ⊢; omega))
          refine z_iinc (v := (v2_7 + 1)) (lv' := [(2, .int (zI (v2_7 + 1))), (3, .int (zI z43)), (0, .ref (B + 141)), (1, .ref (B + a))]) hx hb dX7_write_46 hl (k := 1) rfl (by omega) (by decide) rfl (fun ls hl => ?_)
          refine lv_goto (tgt := 7) hx hb dX7_write_49 (by decide) ?_
          exact ih7 (v2_7 + 1) N53 (by omega)    hIN53 hGN53 (by omega) _ _ _ w (lv_sub hl [0, 2, 3] rfl)
  exact lp7 _ 0 (st M 141 1 (zI 0)) (by omega) (Inv.to hI (a := 141) (k := 1) (x := 0) (show iv 141 1 = (0, 256) from rfl) (by omega)) (Fr.to hF (by first | omega | (dsimp only; first | done | omega))) (Nat.lt_succ_self _) _ _ _ w (lv_sub hl [0, 1, 2] rfl)
theorem dX8_append_0 : decode cX8_append 0 = .ok (.bipush 24, 2) := rdX8_append_0
theorem dX8_append_2 : decode cX8_append 2 = .ok (.istore_n 2, 1) := rdX8_append_2
theorem dX8_append_3 : decode cX8_append 3 = .ok (.iload_n 2, 1) := rdX8_append_3
theorem dX8_append_4 : decode cX8_append 4 = .ok (.ifCond .lt 42, 3) := rdX8_append_4
theorem dX8_append_7 : decode cX8_append 7 = .ok (.aload_n 0, 1) := rdX8_append_7
theorem dX8_append_8 : decode cX8_append 8 = .ok (.getfield 15, 3) := rdX8_append_8
theorem tb_271 : Cond.fieldLink "ToneLines$Tape" 15 "ToneLines$Tape" "size" "I" ∈ TB := rtb_19
theorem dX8_append_11 : decode cX8_append 11 = .ok (.sipush 300, 3) := rdX8_append_11
theorem dX8_append_14 : decode cX8_append 14 = .ok (.if_icmp .ge 32, 3) := rdX8_append_14
theorem dX8_append_46 : decode cX8_append 46 = .ok (.return_, 1) := rdX8_append_46
theorem dX8_append_17 : decode cX8_append 17 = .ok (.aload_n 0, 1) := rdX8_append_17
theorem dX8_append_18 : decode cX8_append 18 = .ok (.getfield 9, 3) := rdX8_append_18
theorem tb_272 : Cond.fieldLink "ToneLines$Tape" 9 "ToneLines$Tape" "bytes" "[B" ∈ TB := rtb_20
theorem dX8_append_21 : decode cX8_append 21 = .ok (.aload_n 0, 1) := rdX8_append_21
theorem dX8_append_22 : decode cX8_append 22 = .ok (.getfield 15, 3) := rdX8_append_22
theorem dX8_append_25 : decode cX8_append 25 = .ok (.iload_n 1, 1) := rdX8_append_25
theorem dX8_append_26 : decode cX8_append 26 = .ok (.iload_n 2, 1) := rdX8_append_26
theorem dX8_append_27 : decode cX8_append 27 = .ok (.ishr, 1) := rdX8_append_27
theorem dX8_append_28 : decode cX8_append 28 = .ok (.i2b, 1) := rdX8_append_28
theorem dX8_append_29 : decode cX8_append 29 = .ok (.bastore, 1) := rdX8_append_29
theorem dX8_append_30 : decode cX8_append 30 = .ok (.aload_n 0, 1) := rdX8_append_30
theorem dX8_append_31 : decode cX8_append 31 = .ok (.dup, 1) := rdX8_append_31
theorem dX8_append_32 : decode cX8_append 32 = .ok (.getfield 15, 3) := rdX8_append_32
theorem dX8_append_35 : decode cX8_append 35 = .ok (.iconst 1, 1) := rdX8_append_35
theorem dX8_append_36 : decode cX8_append 36 = .ok (.iadd, 1) := rdX8_append_36
theorem dX8_append_37 : decode cX8_append 37 = .ok (.putfield 15, 3) := rdX8_append_37
theorem dX8_append_40 : decode cX8_append 40 = .ok (.iinc 2 (-8), 3) := rdX8_append_40
theorem dX8_append_43 : decode cX8_append 43 = .ok (.goto (-40), 3) := rdX8_append_43
set_option maxRecDepth 4000 in
theorem q_X8_append {l : Launch} {D : va_G} {B : Nat} {cy : Nat → ClassId} {M : Mem} {x : Int} (hx : (-2147483648) ≤ x ∧ x ≤ 2147483647) (hI : Inv M) : Cv l D B cy yX8_append cX8_append 3 0 0 [.ref (B + 1), .int (zI x)] M (fun M1 => Inv M1 ∧ Fr (fun b9 k9 => (b9 = 1 ∧ k9 = 1) ∨ b9 = 2) M1 M) := by
  refine s_anyQ (by decide) (Nat.le_of_ble_eq_true rfl) ?_
  intro p e s m args below meth c ls Q F hr hlocks hQ w hl
  have F : CallFix p m c cX8_append 3 s args TB RX8 := F
  have hx := F.1
  have hb := F.2.1
  have hl : lv_has ls 3 [(0, .ref (B + 1)), (1, .int (zI x))] := hl
  have hF : Fr (fun b9 k9 => (b9 = 1 ∧ k9 = 1) ∨ b9 = 2) M M := Fr.rf
  refine lv_bipush (v := zI 24) hx hb dX8_append_0 (by decide) ?_
  refine lv_istore_n (lv' := [(2, .int (zI 24)), (0, .ref (B + 1)), (1, .int (zI x))]) hx hb dX8_append_2 rfl hl (by decide) rfl (fun ls hl => ?_)
  have lp3 : ∀ (f : Nat) (v2_3 : Int)  (NL3 : Mem), ((-100) ≤ v2_3 ∧ v2_3 ≤ 24) → Inv NL3 → Fr (fun b9 k9 => (b9 = 1 ∧ k9 = 1) ∨ b9 = 2) NL3 M → (Int.toNat (v2_3 - (-8)) < f) → ∀ (H : Heap) (locs : List Loc) (ls : Array Slot), Wd D B cy s s.heap NL3 H locs → lv_has ls 3 [(2, .int (zI v2_3)), (0, .ref (B + 1)), (1, .int (zI x))] → W p l e (rmm 0 0) s m args below meth c H locs 0 0 Q (F0 m 3 ls []) := by
    intro f
    induction f with
    | zero => intros; omega
    | succ f ih3 =>
      intro v2_3  NL3 iv2_3 hIL3 hFL3 hf3 H locs ls w hl
      refine lv_iload_n hx hb dX8_append_3 rfl (lv_at hl 0 rfl) ?_
      refine z_if_lt (tgt := 46) hx hb (by omega) dX8_append_4 (by decide) (fun c1 => ?_) (fun c1 => ?_)
      · rw [hQ]
        exact e_v F w hr hlocks ⟨hIL3, hFL3⟩ dX8_append_46
      · refine lv_aload_n hx hb dX8_append_7 rfl (lv_at hl 1 rfl) ?_
        refine f_8_1 F w (a := 1) rfl tb_271 dX8_append_8 ?_
        obtain ⟨z2, bz2, ez2⟩ := Inv.ld (k := 1) hIL3 (show iv 1 1 = (0, 300) from rfl) (show 1 < 146 by decide)
        refine r_val ez2 ?_
        refine lv_sipush (v := zI 300) hx hb dX8_append_11 (by decide) ?_
        refine z_icmp_ge (tgt := 46) hx hb (by omega) (by omega) dX8_append_14 (by decide) (fun c3 => ?_) (fun c3 => ?_)
        · rw [hQ]
          exact e_v F w hr hlocks ⟨hIL3, hFL3⟩ dX8_append_46
        · refine lv_aload_n hx hb dX8_append_17 rfl (lv_at hl 1 rfl) ?_
          refine f_8_0 F w (a := 1) rfl tb_272 dX8_append_18 ?_
          refine lv_aload_n hx hb dX8_append_21 rfl (lv_at hl 1 rfl) ?_
          refine f_8_1 F w (a := 1) rfl tb_271 dX8_append_22 ?_
          refine r_val (v := zI z2) (ez2) ?_
          refine lv_iload_n hx hb dX8_append_25 rfl (lv_at hl 2 rfl) ?_
          refine lv_iload_n hx hb dX8_append_26 rfl (lv_at hl 0 rfl) ?_
          obtain ⟨z4, bz4, x0z4, ez4⟩ := shr_ex x v2_3 (by omega)
          refine lv_ishr hx hb dX8_append_27 ?_
          refine r_val ez4 ?_
          obtain ⟨z5, bz5, ez5⟩ := i2b_ex (zI z4)
          refine lv_i2b (v := zI z5) hx hb dX8_append_28 ez5 ?_
          refine g_bast F w (a := 2) rfl (j := (Int.toNat z2)) (ix_z (by omega) (by omega)) (by omega) dX8_append_29 (fun H locs w => ?_)
          rw [nar_b (z := z5) (by omega)] at w
          refine lv_aload_n hx hb dX8_append_30 rfl (lv_at hl 1 rfl) ?_
          refine lv_dup hx hb dX8_append_31 rfl ?_
          refine f_8_1 F w (a := 1) rfl tb_271 dX8_append_32 ?_
          refine r_val (v := zI z2) ((st_ne (Or.inl (by decide))).trans ez2) ?_
          refine lv_iconst (v := zI 1) hx hb dX8_append_35 rfl ?_
          refine z_iadd (z := (z2 + 1)) hx hb dX8_append_36 (by omega) ?_
          refine u_8_1 F w (a := 1) rfl tb_271 dX8_append_37 (fun H locs w => ?_)
          refine z_iinc (v := (v2_3 - 8)) (lv' := [(2, .int (zI (v2_3 - 8))), (0, .ref (B + 1)), (1, .int (zI x))]) hx hb dX8_append_40 hl (k := 0) rfl (by omega) (by decide) rfl (fun ls hl => ?_)
          refine lv_goto (tgt := 3) hx hb dX8_append_43 (by decide) ?_
          exact ih3 (v2_3 - 8) (st (st NL3 2 (Int.toNat z2) (zI z5)) 1 1 (zI (z2 + 1))) (by omega)    (Inv.to (Inv.to hIL3 (a := 2) (k := (Int.toNat z2)) (x := z5) (show iv 2 (Int.toNat z2) = ((-128), 127) from rfl) (by omega)) (a := 1) (k := 1) (x := (z2 + 1)) (show iv 1 1 = (0, 300) from rfl) (by omega)) (Fr.to (Fr.to hFL3 (by first | omega | (dsimp only; first | done | omega))) (by first | omega | (dsimp only; first | done | omega))) (by omega) _ _ _ w (lv_sub hl [0, 1, 2] rfl)
  exact lp3 _ 24 M (by omega) hI hF (Nat.lt_succ_self _) _ _ _ w (lv_sub hl [0, 1, 2] rfl)
theorem dX8_signAt_0 : decode cX8_signAt 0 = .ok (.iload_n 1, 1) := rdX8_signAt_0
theorem dX8_signAt_1 : decode cX8_signAt 1 = .ok (.ifCond .lt 31, 3) := rdX8_signAt_1
theorem dX8_signAt_32 : decode cX8_signAt 32 = .ok (.iconst (-1), 1) := rdX8_signAt_32
theorem dX8_signAt_33 : decode cX8_signAt 33 = .ok (.ireturn, 1) := rdX8_signAt_33
theorem dX8_signAt_4 : decode cX8_signAt 4 = .ok (.iload_n 1, 1) := rdX8_signAt_4
theorem dX8_signAt_5 : decode cX8_signAt 5 = .ok (.aload_n 0, 1) := rdX8_signAt_5
theorem dX8_signAt_6 : decode cX8_signAt 6 = .ok (.getfield 15, 3) := rdX8_signAt_6
theorem dX8_signAt_9 : decode cX8_signAt 9 = .ok (.if_icmp .ge 23, 3) := rdX8_signAt_9
theorem dX8_signAt_12 : decode cX8_signAt 12 = .ok (.iload_n 1, 1) := rdX8_signAt_12
theorem dX8_signAt_13 : decode cX8_signAt 13 = .ok (.sipush 300, 3) := rdX8_signAt_13
theorem dX8_signAt_16 : decode cX8_signAt 16 = .ok (.if_icmp .ge 16, 3) := rdX8_signAt_16
theorem dX8_signAt_19 : decode cX8_signAt 19 = .ok (.aload_n 0, 1) := rdX8_signAt_19
theorem dX8_signAt_20 : decode cX8_signAt 20 = .ok (.getfield 9, 3) := rdX8_signAt_20
theorem dX8_signAt_23 : decode cX8_signAt 23 = .ok (.iload_n 1, 1) := rdX8_signAt_23
theorem dX8_signAt_24 : decode cX8_signAt 24 = .ok (.baload, 1) := rdX8_signAt_24
theorem dX8_signAt_25 : decode cX8_signAt 25 = .ok (.sipush 255, 3) := rdX8_signAt_25
theorem dX8_signAt_28 : decode cX8_signAt 28 = .ok (.iand, 1) := rdX8_signAt_28
theorem dX8_signAt_29 : decode cX8_signAt 29 = .ok (.goto 4, 3) := rdX8_signAt_29
set_option maxRecDepth 4000 in
theorem q_X8_signAt {l : Launch} {D : va_G} {B : Nat} {cy : Nat → ClassId} {M : Mem} {x : Int} (hx : (-2147483648) ≤ x ∧ x ≤ 2147483647) (hI : Inv M) : Ci l D B cy yX8_signAt cX8_signAt 2 (some .int) 0 0 [.ref (B + 1), .int (zI x)] M (fun r M1 => ∃ z : Int, r = zI z ∧ ((-1) ≤ z ∧ z ≤ 255) ∧ (z = -1 ∨ (0 ≤ x ∧ x ≤ 299)) ∧ M1 = M) := by
  refine s_anyQ (by decide) (Nat.le_of_ble_eq_true rfl) ?_
  intro p e s m args below meth c ls Q F hr hlocks hQ w hl
  have F : CallFix p m c cX8_signAt 2 s args TB RX8 := F
  have hx := F.1
  have hb := F.2.1
  have hl : lv_has ls 2 [(0, .ref (B + 1)), (1, .int (zI x))] := hl
  refine lv_iload_n hx hb dX8_signAt_0 rfl (lv_at hl 1 rfl) ?_
  refine z_if_lt (tgt := 32) hx hb (by omega) dX8_signAt_1 (by decide) (fun c1 => ?_) (fun c1 => ?_)
  · refine lv_iconst (v := zI (-1)) hx hb dX8_signAt_32 rfl ?_
    rw [hQ]
    exact e_i F w hr hlocks ⟨_, rfl, (by omega), (by omega), rfl⟩ dX8_signAt_33
  · refine lv_iload_n hx hb dX8_signAt_4 rfl (lv_at hl 1 rfl) ?_
    refine lv_aload_n hx hb dX8_signAt_5 rfl (lv_at hl 0 rfl) ?_
    refine f_8_1 F w (a := 1) rfl tb_271 dX8_signAt_6 ?_
    obtain ⟨z2, bz2, ez2⟩ := Inv.ld (k := 1) hI (show iv 1 1 = (0, 300) from rfl) (show 1 < 146 by decide)
    refine r_val ez2 ?_
    refine z_icmp_ge (tgt := 32) hx hb (by omega) (by omega) dX8_signAt_9 (by decide) (fun c3 => ?_) (fun c3 => ?_)
    · refine lv_iconst (v := zI (-1)) hx hb dX8_signAt_32 rfl ?_
      rw [hQ]
      exact e_i F w hr hlocks ⟨_, rfl, (by omega), (by omega), rfl⟩ dX8_signAt_33
    · refine lv_iload_n hx hb dX8_signAt_12 rfl (lv_at hl 1 rfl) ?_
      refine lv_sipush (v := zI 300) hx hb dX8_signAt_13 (by decide) ?_
      refine z_icmp_ge (tgt := 32) hx hb (by omega) (by omega) dX8_signAt_16 (by decide) (fun c4 => False.elim (by omega)) (fun c4 => ?_)
      refine lv_aload_n hx hb dX8_signAt_19 rfl (lv_at hl 0 rfl) ?_
      refine f_8_0 F w (a := 1) rfl tb_272 dX8_signAt_20 ?_
      refine lv_iload_n hx hb dX8_signAt_23 rfl (lv_at hl 1 rfl) ?_
      refine g_bald F w (a := 2) rfl (j := (Int.toNat x)) (ix_z (by omega) (by omega)) (by omega) dX8_signAt_24 ?_
      obtain ⟨z5, bz5, ez5⟩ := Inv.ld (k := (Int.toNat x)) hI (show iv 2 (Int.toNat x) = ((-128), 127) from rfl) (show 2 < 146 by decide)
      refine r_val ez5 ?_
      refine lv_sipush (v := zI 255) hx hb dX8_signAt_25 (by decide) ?_
      obtain ⟨z6, bz6, x0z6, x1z6, ez6⟩ := and_ex z5 255 (by omega) (by omega)
      refine lv_iand hx hb dX8_signAt_28 ?_
      refine r_val ez6 ?_
      refine lv_goto (tgt := 33) hx hb dX8_signAt_29 (by decide) ?_
      rw [hQ]
      exact e_i F w hr hlocks ⟨_, rfl, (by omega), (by omega), rfl⟩ dX8_signAt_33
theorem dX8_skipBlanks_0 : decode cX8_skipBlanks 0 = .ok (.iload_n 1, 1) := rdX8_skipBlanks_0
theorem dX8_skipBlanks_1 : decode cX8_skipBlanks 1 = .ok (.istore_n 2, 1) := rdX8_skipBlanks_1
theorem dX8_skipBlanks_2 : decode cX8_skipBlanks 2 = .ok (.iload_n 2, 1) := rdX8_skipBlanks_2
theorem dX8_skipBlanks_3 : decode cX8_skipBlanks 3 = .ok (.ifCond .lt 35, 3) := rdX8_skipBlanks_3
theorem dX8_skipBlanks_38 : decode cX8_skipBlanks 38 = .ok (.iload_n 2, 1) := rdX8_skipBlanks_38
theorem dX8_skipBlanks_39 : decode cX8_skipBlanks 39 = .ok (.ireturn, 1) := rdX8_skipBlanks_39
theorem dX8_skipBlanks_6 : decode cX8_skipBlanks 6 = .ok (.iload_n 2, 1) := rdX8_skipBlanks_6
theorem dX8_skipBlanks_7 : decode cX8_skipBlanks 7 = .ok (.aload_n 0, 1) := rdX8_skipBlanks_7
theorem dX8_skipBlanks_8 : decode cX8_skipBlanks 8 = .ok (.getfield 15, 3) := rdX8_skipBlanks_8
theorem dX8_skipBlanks_11 : decode cX8_skipBlanks 11 = .ok (.if_icmp .ge 27, 3) := rdX8_skipBlanks_11
theorem dX8_skipBlanks_14 : decode cX8_skipBlanks 14 = .ok (.iload_n 2, 1) := rdX8_skipBlanks_14
theorem dX8_skipBlanks_15 : decode cX8_skipBlanks 15 = .ok (.sipush 300, 3) := rdX8_skipBlanks_15
theorem dX8_skipBlanks_18 : decode cX8_skipBlanks 18 = .ok (.if_icmp .ge 20, 3) := rdX8_skipBlanks_18
theorem dX8_skipBlanks_21 : decode cX8_skipBlanks 21 = .ok (.aload_n 0, 1) := rdX8_skipBlanks_21
theorem dX8_skipBlanks_22 : decode cX8_skipBlanks 22 = .ok (.getfield 9, 3) := rdX8_skipBlanks_22
theorem dX8_skipBlanks_25 : decode cX8_skipBlanks 25 = .ok (.iload_n 2, 1) := rdX8_skipBlanks_25
theorem dX8_skipBlanks_26 : decode cX8_skipBlanks 26 = .ok (.baload, 1) := rdX8_skipBlanks_26
theorem dX8_skipBlanks_27 : decode cX8_skipBlanks 27 = .ok (.bipush 32, 2) := rdX8_skipBlanks_27
theorem dX8_skipBlanks_29 : decode cX8_skipBlanks 29 = .ok (.if_icmp .ne 9, 3) := rdX8_skipBlanks_29
theorem dX8_skipBlanks_32 : decode cX8_skipBlanks 32 = .ok (.iinc 2 1, 3) := rdX8_skipBlanks_32
theorem dX8_skipBlanks_35 : decode cX8_skipBlanks 35 = .ok (.goto (-33), 3) := rdX8_skipBlanks_35
set_option maxRecDepth 4000 in
theorem q_X8_skipBlanks {l : Launch} {D : va_G} {B : Nat} {cy : Nat → ClassId} {M : Mem} {x : Int} (hx : (-2147483648) ≤ x ∧ x ≤ 2147483647) (hI : Inv M) : Ci l D B cy yX8_skipBlanks cX8_skipBlanks 3 (some .int) 0 0 [.ref (B + 1), .int (zI x)] M (fun r M1 => ∃ z : Int, r = zI z ∧ ((-2147483648) ≤ z ∧ z ≤ 2147483647) ∧ (x ≤ z) ∧ M1 = M) := by
  refine s_anyQ (by decide) (Nat.le_of_ble_eq_true rfl) ?_
  intro p e s m args below meth c ls Q F hr hlocks hQ w hl
  have F : CallFix p m c cX8_skipBlanks 3 s args TB RX8 := F
  have hx := F.1
  have hb := F.2.1
  have hl : lv_has ls 3 [(0, .ref (B + 1)), (1, .int (zI x))] := hl
  refine lv_iload_n hx hb dX8_skipBlanks_0 rfl (lv_at hl 1 rfl) ?_
  refine lv_istore_n (lv' := [(2, .int (zI x)), (0, .ref (B + 1)), (1, .int (zI x))]) hx hb dX8_skipBlanks_1 rfl hl (by decide) rfl (fun ls hl => ?_)
  have lp2 : ∀ (f : Nat) (v2_2 : Int), ((-2147483648) ≤ v2_2 ∧ v2_2 ≤ 2147483647) → (x ≤ v2_2) → (Int.toNat (300 - v2_2) < f) → ∀ (H : Heap) (locs : List Loc) (ls : Array Slot), Wd D B cy s s.heap M H locs → lv_has ls 3 [(2, .int (zI v2_2)), (0, .ref (B + 1)), (1, .int (zI x))] → W p l e (rmm 0 0) s m args below meth c H locs 0 0 Q (F0 m 2 ls []) := by
    intro f
    induction f with
    | zero => intros; omega
    | succ f ih2 =>
      intro v2_2  iv2_2 y2_0 hf2 H locs ls w hl
      refine lv_iload_n hx hb dX8_skipBlanks_2 rfl (lv_at hl 0 rfl) ?_
      refine z_if_lt (tgt := 38) hx hb (by omega) dX8_skipBlanks_3 (by decide) (fun c1 => ?_) (fun c1 => ?_)
      · refine lv_iload_n hx hb dX8_skipBlanks_38 rfl (lv_at hl 0 rfl) ?_
        rw [hQ]
        exact e_i F w hr hlocks ⟨_, rfl, (by omega), (by omega), rfl⟩ dX8_skipBlanks_39
      · refine lv_iload_n hx hb dX8_skipBlanks_6 rfl (lv_at hl 0 rfl) ?_
        refine lv_aload_n hx hb dX8_skipBlanks_7 rfl (lv_at hl 1 rfl) ?_
        refine f_8_1 F w (a := 1) rfl tb_271 dX8_skipBlanks_8 ?_
        obtain ⟨z2, bz2, ez2⟩ := Inv.ld (k := 1) hI (show iv 1 1 = (0, 300) from rfl) (show 1 < 146 by decide)
        refine r_val ez2 ?_
        refine z_icmp_ge (tgt := 38) hx hb (by omega) (by omega) dX8_skipBlanks_11 (by decide) (fun c3 => ?_) (fun c3 => ?_)
        · refine lv_iload_n hx hb dX8_skipBlanks_38 rfl (lv_at hl 0 rfl) ?_
          rw [hQ]
          exact e_i F w hr hlocks ⟨_, rfl, (by omega), (by omega), rfl⟩ dX8_skipBlanks_39
        · refine lv_iload_n hx hb dX8_skipBlanks_14 rfl (lv_at hl 0 rfl) ?_
          refine lv_sipush (v := zI 300) hx hb dX8_skipBlanks_15 (by decide) ?_
          refine z_icmp_ge (tgt := 38) hx hb (by omega) (by omega) dX8_skipBlanks_18 (by decide) (fun c4 => False.elim (by omega)) (fun c4 => ?_)
          refine lv_aload_n hx hb dX8_skipBlanks_21 rfl (lv_at hl 1 rfl) ?_
          refine f_8_0 F w (a := 1) rfl tb_272 dX8_skipBlanks_22 ?_
          refine lv_iload_n hx hb dX8_skipBlanks_25 rfl (lv_at hl 0 rfl) ?_
          refine g_bald F w (a := 2) rfl (j := (Int.toNat v2_2)) (ix_z (by omega) (by omega)) (by omega) dX8_skipBlanks_26 ?_
          obtain ⟨z5, bz5, ez5⟩ := Inv.ld (k := (Int.toNat v2_2)) hI (show iv 2 (Int.toNat v2_2) = ((-128), 127) from rfl) (show 2 < 146 by decide)
          refine r_val ez5 ?_
          refine lv_bipush (v := zI 32) hx hb dX8_skipBlanks_27 (by decide) ?_
          refine z_icmp_ne (tgt := 38) hx hb (by omega) (by omega) dX8_skipBlanks_29 (by decide) (fun c6 => ?_) (fun c6 => ?_)
          · refine lv_iload_n hx hb dX8_skipBlanks_38 rfl (lv_at hl 0 rfl) ?_
            rw [hQ]
            exact e_i F w hr hlocks ⟨_, rfl, (by omega), (by omega), rfl⟩ dX8_skipBlanks_39
          · refine z_iinc (v := (v2_2 + 1)) (lv' := [(2, .int (zI (v2_2 + 1))), (0, .ref (B + 1)), (1, .int (zI x))]) hx hb dX8_skipBlanks_32 hl (k := 0) rfl (by omega) (by decide) rfl (fun ls hl => ?_)
            refine lv_goto (tgt := 2) hx hb dX8_skipBlanks_35 (by decide) ?_
            exact ih2 (v2_2 + 1) (by omega)   (by omega)  (by omega) _ _ _ w (lv_sub hl [0, 1, 2] rfl)
  exact lp2 _ x (by omega) (by omega) (Nat.lt_succ_self _) _ _ _ w (lv_sub hl [0, 1, 2] rfl)
