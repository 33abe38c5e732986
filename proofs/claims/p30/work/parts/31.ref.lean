theorem dX12_line_0 : decode cX12_line 0 = .ok (.aload_n 0, 1) := wdX12_line_0
theorem dX12_line_1 : decode cX12_line 1 = .ok (.getfield 13, 3) := wdX12_line_1
theorem dX12_line_4 : decode cX12_line 4 = .ok (.iload_n 1, 1) := wdX12_line_4
theorem dX12_line_5 : decode cX12_line 5 = .ok (.invokestatic 105, 3) := wdX12_line_5
theorem dX12_line_8 : decode cX12_line 8 = .ok (.ifCond .eq 26, 3) := wdX12_line_8
theorem dX12_line_34 : decode cX12_line 34 = .ok (.iconst 0, 1) := wdX12_line_34
theorem dX12_line_35 : decode cX12_line 35 = .ok (.ireturn, 1) := wdX12_line_35
theorem dX12_line_11 : decode cX12_line 11 = .ok (.aload_n 0, 1) := wdX12_line_11
theorem dX12_line_12 : decode cX12_line 12 = .ok (.getfield 13, 3) := wdX12_line_12
theorem dX12_line_15 : decode cX12_line 15 = .ok (.iload_n 2, 1) := wdX12_line_15
theorem dX12_line_16 : decode cX12_line 16 = .ok (.invokestatic 94, 3) := wdX12_line_16
theorem dX12_line_19 : decode cX12_line 19 = .ok (.ifCond .eq 15, 3) := wdX12_line_19
theorem dX12_line_22 : decode cX12_line 22 = .ok (.aload_n 0, 1) := wdX12_line_22
theorem dX12_line_23 : decode cX12_line 23 = .ok (.getfield 13, 3) := wdX12_line_23
theorem dX12_line_26 : decode cX12_line 26 = .ok (.iload_n 1, 1) := wdX12_line_26
theorem dX12_line_27 : decode cX12_line 27 = .ok (.iload_n 2, 1) := wdX12_line_27
theorem dX12_line_28 : decode cX12_line 28 = .ok (.invokestatic 86, 3) := wdX12_line_28
theorem dX12_line_31 : decode cX12_line 31 = .ok (.ifCond .ne 5, 3) := wdX12_line_31
theorem dX12_line_36 : decode cX12_line 36 = .ok (.aload_n 0, 1) := wdX12_line_36
theorem dX12_line_37 : decode cX12_line 37 = .ok (.invokevirtual 242, 3) := wdX12_line_37
theorem tk_X12_keeps : Cond.code yX12_keeps cX12_keeps 2 none ∈ TB := wtk_X12_keeps
theorem gc_X12_keeps : GoodIn TB (cw yX12_keeps cX12_keeps 2 none) := goodIn_c2 tk_X12_keeps
theorem tb_680 : Cond.methodLink "ToneLinesModel" 242 yX12_keeps ∈ TB := wtb_283
theorem tb_681 : Cond.instanceMethod yX12_keeps ∈ TB := wtb_284
theorem tb_682 : Cond.selects "ToneLinesModel" yX12_keeps yX12_keeps ∈ TB := wtb_285
theorem gv_X12_242 : GoodIn TB (wsV RX12 242 RX12 yX12_keeps (cw yX12_keeps cX12_keeps 2 none)) := goodIn_4 tb_680 tb_681 tb_682 tb_38 gc_X12_keeps
theorem hv_X12_keeps : yX12_keeps.cls = RX12 ∧ yX12_keeps.cls ≠ "java/lang/invoke/MethodHandle" ∧ yX12_keeps.cls ≠ "java/lang/invoke/VarHandle" ∧ (parseMethodDescriptor yX12_keeps.desc).map (fun d => d.parameters.length) = some 0 := whv_X12_keeps
theorem dX12_line_40 : decode cX12_line 40 = .ok (.aload_n 0, 1) := wdX12_line_40
theorem dX12_line_41 : decode cX12_line 41 = .ok (.getfield 13, 3) := wdX12_line_41
theorem dX12_line_44 : decode cX12_line 44 = .ok (.bipush 13, 2) := wdX12_line_44
theorem dX12_line_46 : decode cX12_line 46 = .ok (.iload_n 1, 1) := wdX12_line_46
theorem dX12_line_47 : decode cX12_line 47 = .ok (.iadd, 1) := wdX12_line_47
theorem dX12_line_48 : decode cX12_line 48 = .ok (.dup2, 1) := wdX12_line_48
theorem dX12_line_49 : decode cX12_line 49 = .ok (.iaload, 1) := wdX12_line_49
theorem dX12_line_50 : decode cX12_line 50 = .ok (.iconst 1, 1) := wdX12_line_50
theorem dX12_line_51 : decode cX12_line 51 = .ok (.iload_n 2, 1) := wdX12_line_51
theorem dX12_line_52 : decode cX12_line 52 = .ok (.ishl, 1) := wdX12_line_52
theorem dX12_line_53 : decode cX12_line 53 = .ok (.ior, 1) := wdX12_line_53
theorem dX12_line_54 : decode cX12_line 54 = .ok (.iastore, 1) := wdX12_line_54
theorem dX12_line_55 : decode cX12_line 55 = .ok (.iconst 1, 1) := wdX12_line_55
theorem dX12_line_56 : decode cX12_line 56 = .ok (.ireturn, 1) := wdX12_line_56
set_option maxRecDepth 4000 in
theorem q_X12_line {l : Launch} {D : va_G} {B : Nat} {cy : Nat → ClassId} {M : Mem} {t : Int} (ht : (-2147483648) ≤ t ∧ t ≤ 2147483647) {y : Int} (hy : (-2147483648) ≤ y ∧ y ≤ 2147483647) (hI : IvR M) : Ci l D B cy yX12_line cX12_line 3 (some .boolean) 3 66 [.ref (B + 146), .int (zI t), .int (zI y)] M (fun r M1 => ∃ z : Int, r = zI z ∧ (0 ≤ z ∧ z ≤ 1) ∧ IvR M1 ∧ Fr (fun b9 k9 => (b9 = 146 ∧ k9 = 20) ∨ b9 = 155 ∨ (b9 = 147 ∧ 13 ≤ k9 ∧ k9 ≤ 24)) M1 M) := by
  refine s_anyQ (by decide) (Nat.le_of_ble_eq_true rfl) ?_
  intro p e s m args below meth c ls Q F hr hlocks hQ w hl
  have F : CallFix p m c cX12_line 3 s args TB RX12 := F
  have hx := F.1
  have hb := F.2.1
  have hl : lv_has ls 3 [(0, .ref (B + 146)), (1, .int (zI t)), (2, .int (zI y))] := hl
  have hF : Fr (fun b9 k9 => (b9 = 146 ∧ k9 = 20) ∨ b9 = 155 ∨ (b9 = 147 ∧ 13 ≤ k9 ∧ k9 ≤ 24)) M M := Fr.rf
  refine lv_aload_n hx hb dX12_line_0 rfl (lv_at hl 0 rfl) ?_
  refine f_12_1 F w (a := 146) rfl tb_580 dX12_line_1 ?_
  refine lv_iload_n hx hb dX12_line_4 rfl (lv_at hl 1 rfl) ?_
  obtain ⟨z1, bz1, ez1⟩ := IvR.ld (k := 0) hI (show ivr 147 0 = (0, 12) from rfl) (show 146 ≤ 147 ∧ 147 < 159 by decide)
  refine k_Si F w (As := [.ref (B + 147), .int (zI t)]) (rest := []) (q_X12_isTone_147 (t := t) ⟨by omega, by omega⟩ (nn := z1) (ez1) ⟨by omega, by omega⟩  hI) gs_X12_105 hs_X12_isTone ⟨(Nat.le_of_ble_eq_true rfl), (Nat.le_of_ble_eq_true rfl)⟩ hl.1 rfl (Nat.le_of_ble_eq_true rfl) ⟨Nat.zero_le _, Nat.zero_le _⟩ dX12_line_5 (fun r2 N3 H locs hp w => ?_)
  obtain ⟨z4, rfl, bz4, xz4, hMN3⟩ := hp
  rw [hMN3] at w
  refine z_if_eq (tgt := 34) hx hb (by omega) dX12_line_8 (by decide) (fun c5 => ?_) (fun c5 => ?_)
  · refine lv_iconst (v := zI 0) hx hb dX12_line_34 rfl ?_
    rw [hQ]
    exact e_z F w hr hlocks (nar_z (by omega)) ⟨_, rfl, ⟨by omega, by omega⟩, hI, hF⟩ dX12_line_35
  · refine lv_aload_n hx hb dX12_line_11 rfl (lv_at hl 0 rfl) ?_
    refine f_12_1 F w (a := 146) rfl tb_580 dX12_line_12 ?_
    refine lv_iload_n hx hb dX12_line_15 rfl (lv_at hl 2 rfl) ?_
    refine k_Si F w (As := [.ref (B + 147), .int (zI y)]) (rest := []) (q_X12_isSyllable_147 (t := y) ⟨by omega, by omega⟩  hI) gs_X12_94 hs_X12_isSyllable ⟨(Nat.le_of_ble_eq_true rfl), (Nat.le_of_ble_eq_true rfl)⟩ hl.1 rfl (Nat.le_of_ble_eq_true rfl) ⟨Nat.zero_le _, Nat.zero_le _⟩ dX12_line_16 (fun r6 N7 H locs hp w => ?_)
    obtain ⟨z8, rfl, bz8, xz8, hMN7⟩ := hp
    rw [hMN7] at w
    refine z_if_eq (tgt := 34) hx hb (by omega) dX12_line_19 (by decide) (fun c9 => ?_) (fun c9 => ?_)
    · refine lv_iconst (v := zI 0) hx hb dX12_line_34 rfl ?_
      rw [hQ]
      exact e_z F w hr hlocks (nar_z (by omega)) ⟨_, rfl, ⟨by omega, by omega⟩, hI, hF⟩ dX12_line_35
    · refine lv_aload_n hx hb dX12_line_22 rfl (lv_at hl 0 rfl) ?_
      refine f_12_1 F w (a := 146) rfl tb_580 dX12_line_23 ?_
      refine lv_iload_n hx hb dX12_line_26 rfl (lv_at hl 1 rfl) ?_
      refine lv_iload_n hx hb dX12_line_27 rfl (lv_at hl 2 rfl) ?_
      refine k_Si F w (As := [.ref (B + 147), .int (zI t), .int (zI y)]) (rest := []) (q_isOpen_147 (t := t) ⟨by omega, by omega⟩ (y := y) ⟨by omega, by omega⟩ (nn := z1) (ez1) ⟨by omega, by omega⟩ (by omega) hI) gs_X12_86 hs_X12_isOpen ⟨(Nat.le_of_ble_eq_true rfl), (Nat.le_of_ble_eq_true rfl)⟩ hl.1 rfl (Nat.le_of_ble_eq_true rfl) ⟨Nat.zero_le _, Nat.zero_le _⟩ dX12_line_28 (fun r10 N11 H locs hp w => ?_)
      obtain ⟨z12, rfl, bz12, xz12, hMN11⟩ := hp
      rw [hMN11] at w
      refine z_if_ne (tgt := 36) hx hb (by omega) dX12_line_31 (by decide) (fun c13 => ?_) (fun c13 => ?_)
      · refine lv_aload_n hx hb dX12_line_36 rfl (lv_at hl 0 rfl) ?_
        obtain ⟨z14, bz14, ez14⟩ := IvR.ld (k := 20) hI (show ivr 146 20 = (0, 12) from rfl) (show 146 ≤ 146 ∧ 146 < 159 by decide)
        refine k_Vv F w (As := []) (rest := []) (a := 146) (kd_lt (a := 146) (show kd 146 = (12, 0, 0) from rfl) (by decide)) (sh_12 rfl _ _) rfl (q_X12_keeps (ac := z14) (ez14) ⟨by omega, by omega⟩  hI) gv_X12_242 hv_X12_keeps ⟨(Nat.le_of_ble_eq_true rfl), (Nat.le_of_ble_eq_true rfl)⟩ hl.1 rfl (Nat.le_of_ble_eq_true rfl) ⟨Nat.zero_le _, Nat.zero_le _⟩ dX12_line_37 (fun N16 H locs hp w => ?_)
        obtain ⟨hIN16, hFN16⟩ := hp
        have hGN16 := Fr.tr hF hFN16 (S := (fun b9 k9 => (b9 = 146 ∧ k9 = 20) ∨ b9 = 155 ∨ (b9 = 147 ∧ 13 ≤ k9 ∧ k9 ≤ 24))) (fun b k h => by (try dsimp only at h ⊢); rcases h with ⟨rfl, rfl⟩ | rfl <;> first | decide | omega)
        have kn18 : N16.1 147 0 = zI z1 := (hFN16 147 0 (by first | decide | (dsimp only; first | done | decide | omega) | omega)).trans (ez1)
        have op19 := OpN.fr (Or.resolve_left xz12 (by omega)) hFN16 (fun k9 => by first | decide | (dsimp only; first | done | decide | omega) | omega)
        refine lv_aload_n hx hb dX12_line_40 rfl (lv_at hl 0 rfl) ?_
        refine f_12_1 F w (a := 146) rfl tb_580 dX12_line_41 ?_
        refine lv_bipush (v := zI 13) hx hb dX12_line_44 (by decide) ?_
        refine lv_iload_n hx hb dX12_line_46 rfl (lv_at hl 1 rfl) ?_
        refine z_iadd (z := (t + 13)) hx hb dX12_line_47 (by omega) ?_
        refine lv_dup2_11 hx hb dX12_line_48 rfl rfl ?_
        refine g_iald F w (a := 147) rfl (j := (13 + Int.toNat t)) (ix_l (t := t) (by omega) (by omega)) (by omega) dX12_line_49 ?_
        obtain ⟨z20, bz20, ez20⟩ := IvR.ld (k := (13 + Int.toNat t)) hIN16 (wiv_l (a := 147) (k := (13 + Int.toNat t)) (by omega) (by omega)) (show 146 ≤ 147 ∧ 147 < 159 by decide)
        refine r_val ez20 ?_
        refine lv_iconst (v := zI 1) hx hb dX12_line_50 rfl ?_
        refine lv_iload_n hx hb dX12_line_51 rfl (lv_at hl 2 rfl) ?_
        obtain ⟨z21, bz21, x0z21, ez21⟩ := shl_ex 1 y
        refine lv_ishl hx hb dX12_line_52 ?_
        refine r_val ez21 ?_
        obtain ⟨z22, bz22, x0z22, ez22⟩ := or_ex z20 z21
        refine lv_ior hx hb dX12_line_53 ?_
        refine r_val ez22 ?_
        refine g_iast F w (a := 147) rfl (j := (13 + Int.toNat t)) (ix_l (t := t) (by omega) (by omega)) (by omega) dX12_line_54 (fun H locs w => ?_)
        refine lv_iconst (v := zI 1) hx hb dX12_line_55 rfl ?_
        rw [hQ]
        exact e_z F w hr hlocks (nar_z (by omega)) ⟨_, rfl, ⟨by omega, by omega⟩, (IvR.toO hIN16 (a := 147) (t := t) (y := y) (x := z22) (by omega) (by omega) (op19) (or_eq (ez20) ez21 ez22) (by omega)), (Fr.to hGN16 (by first | decide | (dsimp only; first | done | decide | omega) | omega))⟩ dX12_line_56
      · refine lv_iconst (v := zI 0) hx hb dX12_line_34 rfl ?_
        rw [hQ]
        exact e_z F w hr hlocks (nar_z (by omega)) ⟨_, rfl, ⟨by omega, by omega⟩, hI, hF⟩ dX12_line_35
theorem dX12_cut_0 : decode cX12_cut 0 = .ok (.aload_n 0, 1) := wdX12_cut_0
theorem dX12_cut_1 : decode cX12_cut 1 = .ok (.getfield 13, 3) := wdX12_cut_1
theorem dX12_cut_4 : decode cX12_cut 4 = .ok (.iload_n 1, 1) := wdX12_cut_4
theorem dX12_cut_5 : decode cX12_cut 5 = .ok (.invokestatic 105, 3) := wdX12_cut_5
theorem dX12_cut_8 : decode cX12_cut 8 = .ok (.ifCond .eq 30, 3) := wdX12_cut_8
theorem dX12_cut_38 : decode cX12_cut 38 = .ok (.iconst 0, 1) := wdX12_cut_38
theorem dX12_cut_39 : decode cX12_cut 39 = .ok (.ireturn, 1) := wdX12_cut_39
theorem dX12_cut_11 : decode cX12_cut 11 = .ok (.aload_n 0, 1) := wdX12_cut_11
theorem dX12_cut_12 : decode cX12_cut 12 = .ok (.getfield 13, 3) := wdX12_cut_12
theorem dX12_cut_15 : decode cX12_cut 15 = .ok (.iload_n 2, 1) := wdX12_cut_15
theorem dX12_cut_16 : decode cX12_cut 16 = .ok (.invokestatic 94, 3) := wdX12_cut_16
theorem dX12_cut_19 : decode cX12_cut 19 = .ok (.ifCond .eq 19, 3) := wdX12_cut_19
theorem dX12_cut_22 : decode cX12_cut 22 = .ok (.aload_n 0, 1) := wdX12_cut_22
theorem dX12_cut_23 : decode cX12_cut 23 = .ok (.getfield 13, 3) := wdX12_cut_23
theorem dX12_cut_26 : decode cX12_cut 26 = .ok (.bipush 13, 2) := wdX12_cut_26
theorem dX12_cut_28 : decode cX12_cut 28 = .ok (.iload_n 1, 1) := wdX12_cut_28
theorem dX12_cut_29 : decode cX12_cut 29 = .ok (.iadd, 1) := wdX12_cut_29
theorem dX12_cut_30 : decode cX12_cut 30 = .ok (.iaload, 1) := wdX12_cut_30
theorem dX12_cut_31 : decode cX12_cut 31 = .ok (.iload_n 2, 1) := wdX12_cut_31
theorem dX12_cut_32 : decode cX12_cut 32 = .ok (.invokestatic 51, 3) := wdX12_cut_32
theorem dX12_cut_35 : decode cX12_cut 35 = .ok (.ifCond .ne 5, 3) := wdX12_cut_35
theorem dX12_cut_40 : decode cX12_cut 40 = .ok (.aload_n 0, 1) := wdX12_cut_40
theorem dX12_cut_41 : decode cX12_cut 41 = .ok (.invokevirtual 242, 3) := wdX12_cut_41
theorem dX12_cut_44 : decode cX12_cut 44 = .ok (.aload_n 0, 1) := wdX12_cut_44
theorem dX12_cut_45 : decode cX12_cut 45 = .ok (.getfield 13, 3) := wdX12_cut_45
theorem dX12_cut_48 : decode cX12_cut 48 = .ok (.bipush 13, 2) := wdX12_cut_48
theorem dX12_cut_50 : decode cX12_cut 50 = .ok (.iload_n 1, 1) := wdX12_cut_50
theorem dX12_cut_51 : decode cX12_cut 51 = .ok (.iadd, 1) := wdX12_cut_51
theorem dX12_cut_52 : decode cX12_cut 52 = .ok (.dup2, 1) := wdX12_cut_52
theorem dX12_cut_53 : decode cX12_cut 53 = .ok (.iaload, 1) := wdX12_cut_53
theorem dX12_cut_54 : decode cX12_cut 54 = .ok (.iconst 1, 1) := wdX12_cut_54
theorem dX12_cut_55 : decode cX12_cut 55 = .ok (.iload_n 2, 1) := wdX12_cut_55
theorem dX12_cut_56 : decode cX12_cut 56 = .ok (.ishl, 1) := wdX12_cut_56
theorem dX12_cut_57 : decode cX12_cut 57 = .ok (.iconst (-1), 1) := wdX12_cut_57
theorem dX12_cut_58 : decode cX12_cut 58 = .ok (.ixor, 1) := wdX12_cut_58
theorem dX12_cut_59 : decode cX12_cut 59 = .ok (.iand, 1) := wdX12_cut_59
theorem dX12_cut_60 : decode cX12_cut 60 = .ok (.iastore, 1) := wdX12_cut_60
theorem dX12_cut_61 : decode cX12_cut 61 = .ok (.iconst 1, 1) := wdX12_cut_61
theorem dX12_cut_62 : decode cX12_cut 62 = .ok (.ireturn, 1) := wdX12_cut_62
set_option maxRecDepth 4000 in
theorem q_X12_cut {l : Launch} {D : va_G} {B : Nat} {cy : Nat → ClassId} {M : Mem} {t : Int} (ht : (-2147483648) ≤ t ∧ t ≤ 2147483647) {y : Int} (hy : (-2147483648) ≤ y ∧ y ≤ 2147483647) (hI : IvR M) : Ci l D B cy yX12_cut cX12_cut 3 (some .boolean) 2 43 [.ref (B + 146), .int (zI t), .int (zI y)] M (fun r M1 => ∃ z : Int, r = zI z ∧ (0 ≤ z ∧ z ≤ 1) ∧ IvR M1 ∧ Fr (fun b9 k9 => (b9 = 146 ∧ k9 = 20) ∨ b9 = 155 ∨ (b9 = 147 ∧ 13 ≤ k9 ∧ k9 ≤ 24)) M1 M) := by
  refine s_anyQ (by decide) (Nat.le_of_ble_eq_true rfl) ?_
  intro p e s m args below meth c ls Q F hr hlocks hQ w hl
  have F : CallFix p m c cX12_cut 3 s args TB RX12 := F
  have hx := F.1
  have hb := F.2.1
  have hl : lv_has ls 3 [(0, .ref (B + 146)), (1, .int (zI t)), (2, .int (zI y))] := hl
  have hF : Fr (fun b9 k9 => (b9 = 146 ∧ k9 = 20) ∨ b9 = 155 ∨ (b9 = 147 ∧ 13 ≤ k9 ∧ k9 ≤ 24)) M M := Fr.rf
  refine lv_aload_n hx hb dX12_cut_0 rfl (lv_at hl 0 rfl) ?_
  refine f_12_1 F w (a := 146) rfl tb_580 dX12_cut_1 ?_
  refine lv_iload_n hx hb dX12_cut_4 rfl (lv_at hl 1 rfl) ?_
  obtain ⟨z1, bz1, ez1⟩ := IvR.ld (k := 0) hI (show ivr 147 0 = (0, 12) from rfl) (show 146 ≤ 147 ∧ 147 < 159 by decide)
  refine k_Si F w (As := [.ref (B + 147), .int (zI t)]) (rest := []) (q_X12_isTone_147 (t := t) ⟨by omega, by omega⟩ (nn := z1) (ez1) ⟨by omega, by omega⟩  hI) gs_X12_105 hs_X12_isTone ⟨(Nat.le_of_ble_eq_true rfl), (Nat.le_of_ble_eq_true rfl)⟩ hl.1 rfl (Nat.le_of_ble_eq_true rfl) ⟨Nat.zero_le _, Nat.zero_le _⟩ dX12_cut_5 (fun r2 N3 H locs hp w => ?_)
  obtain ⟨z4, rfl, bz4, xz4, hMN3⟩ := hp
  rw [hMN3] at w
  refine z_if_eq (tgt := 38) hx hb (by omega) dX12_cut_8 (by decide) (fun c5 => ?_) (fun c5 => ?_)
  · refine lv_iconst (v := zI 0) hx hb dX12_cut_38 rfl ?_
    rw [hQ]
    exact e_z F w hr hlocks (nar_z (by omega)) ⟨_, rfl, ⟨by omega, by omega⟩, hI, hF⟩ dX12_cut_39
  · refine lv_aload_n hx hb dX12_cut_11 rfl (lv_at hl 0 rfl) ?_
    refine f_12_1 F w (a := 146) rfl tb_580 dX12_cut_12 ?_
    refine lv_iload_n hx hb dX12_cut_15 rfl (lv_at hl 2 rfl) ?_
    refine k_Si F w (As := [.ref (B + 147), .int (zI y)]) (rest := []) (q_X12_isSyllable_147 (t := y) ⟨by omega, by omega⟩  hI) gs_X12_94 hs_X12_isSyllable ⟨(Nat.le_of_ble_eq_true rfl), (Nat.le_of_ble_eq_true rfl)⟩ hl.1 rfl (Nat.le_of_ble_eq_true rfl) ⟨Nat.zero_le _, Nat.zero_le _⟩ dX12_cut_16 (fun r6 N7 H locs hp w => ?_)
    obtain ⟨z8, rfl, bz8, xz8, hMN7⟩ := hp
    rw [hMN7] at w
    refine z_if_eq (tgt := 38) hx hb (by omega) dX12_cut_19 (by decide) (fun c9 => ?_) (fun c9 => ?_)
    · refine lv_iconst (v := zI 0) hx hb dX12_cut_38 rfl ?_
      rw [hQ]
      exact e_z F w hr hlocks (nar_z (by omega)) ⟨_, rfl, ⟨by omega, by omega⟩, hI, hF⟩ dX12_cut_39
    · refine lv_aload_n hx hb dX12_cut_22 rfl (lv_at hl 0 rfl) ?_
      refine f_12_1 F w (a := 146) rfl tb_580 dX12_cut_23 ?_
      refine lv_bipush (v := zI 13) hx hb dX12_cut_26 (by decide) ?_
      refine lv_iload_n hx hb dX12_cut_28 rfl (lv_at hl 1 rfl) ?_
      refine z_iadd (z := (t + 13)) hx hb dX12_cut_29 (by omega) ?_
      refine g_iald F w (a := 147) rfl (j := (13 + Int.toNat t)) (ix_l (t := t) (by omega) (by omega)) (by omega) dX12_cut_30 ?_
      obtain ⟨z10, bz10, ez10⟩ := IvR.ld (k := (13 + Int.toNat t)) hI (wiv_l (a := 147) (k := (13 + Int.toNat t)) (by omega) (by omega)) (show 146 ≤ 147 ∧ 147 < 159 by decide)
      refine r_val ez10 ?_
      refine lv_iload_n hx hb dX12_cut_31 rfl (lv_at hl 2 rfl) ?_
      refine k_Si F w (As := [.int (zI z10), .int (zI y)]) (rest := []) (q_X12_isIn (x := z10) ⟨by omega, by omega⟩ (x1 := y) ⟨by omega, by omega⟩  hI) gs_X12_51 hs_X12_isIn ⟨(Nat.le_of_ble_eq_true rfl), (Nat.le_of_ble_eq_true rfl)⟩ hl.1 rfl (Nat.le_of_ble_eq_true rfl) ⟨Nat.zero_le _, Nat.zero_le _⟩ dX12_cut_32 (fun r11 N12 H locs hp w => ?_)
      obtain ⟨z13, rfl, bz13, hMN12⟩ := hp
      rw [hMN12] at w
      refine z_if_ne (tgt := 40) hx hb (by omega) dX12_cut_35 (by decide) (fun c14 => ?_) (fun c14 => ?_)
      · refine lv_aload_n hx hb dX12_cut_40 rfl (lv_at hl 0 rfl) ?_
        obtain ⟨z15, bz15, ez15⟩ := IvR.ld (k := 20) hI (show ivr 146 20 = (0, 12) from rfl) (show 146 ≤ 146 ∧ 146 < 159 by decide)
        refine k_Vv F w (As := []) (rest := []) (a := 146) (kd_lt (a := 146) (show kd 146 = (12, 0, 0) from rfl) (by decide)) (sh_12 rfl _ _) rfl (q_X12_keeps (ac := z15) (ez15) ⟨by omega, by omega⟩  hI) gv_X12_242 hv_X12_keeps ⟨(Nat.le_of_ble_eq_true rfl), (Nat.le_of_ble_eq_true rfl)⟩ hl.1 rfl (Nat.le_of_ble_eq_true rfl) ⟨Nat.zero_le _, Nat.zero_le _⟩ dX12_cut_41 (fun N17 H locs hp w => ?_)
        obtain ⟨hIN17, hFN17⟩ := hp
        have hGN17 := Fr.tr hF hFN17 (S := (fun b9 k9 => (b9 = 146 ∧ k9 = 20) ∨ b9 = 155 ∨ (b9 = 147 ∧ 13 ≤ k9 ∧ k9 ≤ 24))) (fun b k h => by (try dsimp only at h ⊢); rcases h with ⟨rfl, rfl⟩ | rfl <;> first | decide | omega)
        have kn19 : N17.1 147 0 = zI z1 := (hFN17 147 0 (by first | decide | (dsimp only; first | done | decide | omega) | omega)).trans (ez1)
        refine lv_aload_n hx hb dX12_cut_44 rfl (lv_at hl 0 rfl) ?_
        refine f_12_1 F w (a := 146) rfl tb_580 dX12_cut_45 ?_
        refine lv_bipush (v := zI 13) hx hb dX12_cut_48 (by decide) ?_
        refine lv_iload_n hx hb dX12_cut_50 rfl (lv_at hl 1 rfl) ?_
        refine z_iadd (z := (t + 13)) hx hb dX12_cut_51 (by omega) ?_
        refine lv_dup2_11 hx hb dX12_cut_52 rfl rfl ?_
        refine g_iald F w (a := 147) rfl (j := (13 + Int.toNat t)) (ix_l (t := t) (by omega) (by omega)) (by omega) dX12_cut_53 ?_
        obtain ⟨z20, bz20, ez20⟩ := IvR.ld (k := (13 + Int.toNat t)) hIN17 (wiv_l (a := 147) (k := (13 + Int.toNat t)) (by omega) (by omega)) (show 146 ≤ 147 ∧ 147 < 159 by decide)
        refine r_val ez20 ?_
        refine lv_iconst (v := zI 1) hx hb dX12_cut_54 rfl ?_
        refine lv_iload_n hx hb dX12_cut_55 rfl (lv_at hl 2 rfl) ?_
        obtain ⟨z21, bz21, x0z21, ez21⟩ := shl_ex 1 y
        refine lv_ishl hx hb dX12_cut_56 ?_
        refine r_val ez21 ?_
        refine lv_iconst (v := zI (-1)) hx hb dX12_cut_57 rfl ?_
        refine lv_ixor hx hb dX12_cut_58 ?_
        refine r_val (not_ex z21) ?_
        obtain ⟨z22, bz22, x0z22, x1z22, ez22⟩ := and_ex z20 (-z21 - 1) (by omega) (by omega)
        refine lv_iand hx hb dX12_cut_59 ?_
        refine r_val ez22 ?_
        refine g_iast F w (a := 147) rfl (j := (13 + Int.toNat t)) (ix_l (t := t) (by omega) (by omega)) (by omega) dX12_cut_60 (fun H locs w => ?_)
        refine lv_iconst (v := zI 1) hx hb dX12_cut_61 rfl ?_
        rw [hQ]
        exact e_z F w hr hlocks (nar_z (by omega)) ⟨_, rfl, ⟨by omega, by omega⟩, (IvR.toA hIN17 (a := 147) (k := (13 + Int.toNat t)) (x := z22) (by omega) (by omega) (and_eq (ez20) ez22) (by omega)), (Fr.to hGN17 (by first | decide | (dsimp only; first | done | decide | omega) | omega))⟩ dX12_cut_62
      · refine lv_iconst (v := zI 0) hx hb dX12_cut_38 rfl ?_
        rw [hQ]
        exact e_z F w hr hlocks (nar_z (by omega)) ⟨_, rfl, ⟨by omega, by omega⟩, hI, hF⟩ dX12_cut_39
theorem dX12_tone_0 : decode cX12_tone 0 = .ok (.iload_n 1, 1) := wdX12_tone_0
theorem dX12_tone_1 : decode cX12_tone 1 = .ok (.iconst 0, 1) := wdX12_tone_1
theorem dX12_tone_2 : decode cX12_tone 2 = .ok (.aload_n 0, 1) := wdX12_tone_2
theorem dX12_tone_3 : decode cX12_tone 3 = .ok (.getfield 13, 3) := wdX12_tone_3
theorem dX12_tone_6 : decode cX12_tone 6 = .ok (.iconst 0, 1) := wdX12_tone_6
theorem dX12_tone_7 : decode cX12_tone 7 = .ok (.iaload, 1) := wdX12_tone_7
theorem dX12_tone_8 : decode cX12_tone 8 = .ok (.invokestatic 55, 3) := wdX12_tone_8
theorem dX12_tone_11 : decode cX12_tone 11 = .ok (.ifCond .eq 23, 3) := wdX12_tone_11
theorem dX12_tone_34 : decode cX12_tone 34 = .ok (.iconst 0, 1) := wdX12_tone_34
theorem dX12_tone_35 : decode cX12_tone 35 = .ok (.ireturn, 1) := wdX12_tone_35
theorem dX12_tone_14 : decode cX12_tone 14 = .ok (.iload_n 2, 1) := wdX12_tone_14
theorem dX12_tone_15 : decode cX12_tone 15 = .ok (.iconst 0, 1) := wdX12_tone_15
theorem dX12_tone_16 : decode cX12_tone 16 = .ok (.iconst 2, 1) := wdX12_tone_16
theorem dX12_tone_17 : decode cX12_tone 17 = .ok (.invokestatic 55, 3) := wdX12_tone_17
theorem dX12_tone_20 : decode cX12_tone 20 = .ok (.ifCond .eq 14, 3) := wdX12_tone_20
theorem dX12_tone_23 : decode cX12_tone 23 = .ok (.aload_n 0, 1) := wdX12_tone_23
theorem dX12_tone_24 : decode cX12_tone 24 = .ok (.getfield 13, 3) := wdX12_tone_24
theorem dX12_tone_27 : decode cX12_tone 27 = .ok (.iconst 0, 1) := wdX12_tone_27
theorem dX12_tone_28 : decode cX12_tone 28 = .ok (.iaload, 1) := wdX12_tone_28
theorem dX12_tone_29 : decode cX12_tone 29 = .ok (.bipush 12, 2) := wdX12_tone_29
theorem dX12_tone_31 : decode cX12_tone 31 = .ok (.if_icmp .ne 5, 3) := wdX12_tone_31
theorem dX12_tone_36 : decode cX12_tone 36 = .ok (.aload_n 0, 1) := wdX12_tone_36
theorem dX12_tone_37 : decode cX12_tone 37 = .ok (.invokevirtual 242, 3) := wdX12_tone_37
theorem dX12_tone_40 : decode cX12_tone 40 = .ok (.aload_n 0, 1) := wdX12_tone_40
theorem dX12_tone_41 : decode cX12_tone 41 = .ok (.getfield 13, 3) := wdX12_tone_41
theorem dX12_tone_44 : decode cX12_tone 44 = .ok (.iload_n 1, 1) := wdX12_tone_44
theorem dX12_tone_45 : decode cX12_tone 45 = .ok (.iload_n 2, 1) := wdX12_tone_45
theorem dX12_tone_46 : decode cX12_tone 46 = .ok (.invokestatic 112, 3) := wdX12_tone_46
theorem dX12_tone_49 : decode cX12_tone 49 = .ok (.iconst 1, 1) := wdX12_tone_49
theorem dX12_tone_50 : decode cX12_tone 50 = .ok (.ireturn, 1) := wdX12_tone_50
set_option maxRecDepth 4000 in
theorem q_X12_tone {l : Launch} {D : va_G} {B : Nat} {cy : Nat → ClassId} {M : Mem} {t : Int} (ht : (-2147483648) ≤ t ∧ t ≤ 2147483647) {x : Int} (hx : (-2147483648) ≤ x ∧ x ≤ 2147483647) (hI : IvR M) : Ci l D B cy yX12_tone cX12_tone 3 (some .boolean) 1 23 [.ref (B + 146), .int (zI t), .int (zI x)] M (fun r M1 => ∃ z : Int, r = zI z ∧ (0 ≤ z ∧ z ≤ 1) ∧ IvR M1 ∧ Fr (fun b9 k9 => (b9 = 146 ∧ k9 = 20) ∨ b9 = 147 ∨ b9 = 155) M1 M) := by
  refine s_anyQ (by decide) (Nat.le_of_ble_eq_true rfl) ?_
  intro p e s m args below meth c ls Q F hr hlocks hQ w hl
  have F : CallFix p m c cX12_tone 3 s args TB RX12 := F
  have hx := F.1
  have hb := F.2.1
  have hl : lv_has ls 3 [(0, .ref (B + 146)), (1, .int (zI t)), (2, .int (zI x))] := hl
  have hF : Fr (fun b9 k9 => (b9 = 146 ∧ k9 = 20) ∨ b9 = 147 ∨ b9 = 155) M M := Fr.rf
  refine lv_iload_n hx hb dX12_tone_0 rfl (lv_at hl 1 rfl) ?_
  refine lv_iconst (v := zI 0) hx hb dX12_tone_1 rfl ?_
  refine lv_aload_n hx hb dX12_tone_2 rfl (lv_at hl 0 rfl) ?_
  refine f_12_1 F w (a := 146) rfl tb_580 dX12_tone_3 ?_
  refine lv_iconst (v := zI 0) hx hb dX12_tone_6 rfl ?_
  refine g_iald F w (a := 147) rfl (j := 0) ⟨by decide, by decide⟩ (by omega) dX12_tone_7 ?_
  obtain ⟨z1, bz1, ez1⟩ := IvR.ld (k := 0) hI (show ivr 147 0 = (0, 12) from rfl) (show 146 ≤ 147 ∧ 147 < 159 by decide)
  refine r_val ez1 ?_
  refine k_Si F w (As := [.int (zI t), .int (zI 0), .int (zI z1)]) (rest := []) (q_X12_in (x := t) ⟨by omega, by omega⟩ (x1 := 0) ⟨by omega, by omega⟩ (x2 := z1) ⟨by omega, by omega⟩  hI) gs_X12_55 hs_X12_in ⟨(Nat.le_of_ble_eq_true rfl), (Nat.le_of_ble_eq_true rfl)⟩ hl.1 rfl (Nat.le_of_ble_eq_true rfl) ⟨Nat.zero_le _, Nat.zero_le _⟩ dX12_tone_8 (fun r2 N3 H locs hp w => ?_)
  obtain ⟨z4, rfl, bz4, xz4, hMN3⟩ := hp
  rw [hMN3] at w
  refine z_if_eq (tgt := 34) hx hb (by omega) dX12_tone_11 (by decide) (fun c5 => ?_) (fun c5 => ?_)
  · refine lv_iconst (v := zI 0) hx hb dX12_tone_34 rfl ?_
    rw [hQ]
    exact e_z F w hr hlocks (nar_z (by omega)) ⟨_, rfl, ⟨by omega, by omega⟩, hI, hF⟩ dX12_tone_35
  · refine lv_iload_n hx hb dX12_tone_14 rfl (lv_at hl 2 rfl) ?_
    refine lv_iconst (v := zI 0) hx hb dX12_tone_15 rfl ?_
    refine lv_iconst (v := zI 2) hx hb dX12_tone_16 rfl ?_
    refine k_Si F w (As := [.int (zI x), .int (zI 0), .int (zI 2)]) (rest := []) (q_X12_in (x := x) ⟨by omega, by omega⟩ (x1 := 0) ⟨by omega, by omega⟩ (x2 := 2) ⟨by omega, by omega⟩  hI) gs_X12_55 hs_X12_in ⟨(Nat.le_of_ble_eq_true rfl), (Nat.le_of_ble_eq_true rfl)⟩ hl.1 rfl (Nat.le_of_ble_eq_true rfl) ⟨Nat.zero_le _, Nat.zero_le _⟩ dX12_tone_17 (fun r6 N7 H locs hp w => ?_)
    obtain ⟨z8, rfl, bz8, xz8, hMN7⟩ := hp
    rw [hMN7] at w
    refine z_if_eq (tgt := 34) hx hb (by omega) dX12_tone_20 (by decide) (fun c9 => ?_) (fun c9 => ?_)
    · refine lv_iconst (v := zI 0) hx hb dX12_tone_34 rfl ?_
      rw [hQ]
      exact e_z F w hr hlocks (nar_z (by omega)) ⟨_, rfl, ⟨by omega, by omega⟩, hI, hF⟩ dX12_tone_35
    · refine lv_aload_n hx hb dX12_tone_23 rfl (lv_at hl 0 rfl) ?_
      refine f_12_1 F w (a := 146) rfl tb_580 dX12_tone_24 ?_
      refine lv_iconst (v := zI 0) hx hb dX12_tone_27 rfl ?_
      refine g_iald F w (a := 147) rfl (j := 0) ⟨by decide, by decide⟩ (by omega) dX12_tone_28 ?_
      refine r_val (v := zI z1) (ez1) ?_
      refine lv_bipush (v := zI 12) hx hb dX12_tone_29 (by decide) ?_
      refine z_icmp_ne (tgt := 36) hx hb (by omega) (by omega) dX12_tone_31 (by decide) (fun c10 => ?_) (fun c10 => ?_)
      · refine lv_aload_n hx hb dX12_tone_36 rfl (lv_at hl 0 rfl) ?_
        obtain ⟨z11, bz11, ez11⟩ := IvR.ld (k := 20) hI (show ivr 146 20 = (0, 12) from rfl) (show 146 ≤ 146 ∧ 146 < 159 by decide)
        refine k_Vv F w (As := []) (rest := []) (a := 146) (kd_lt (a := 146) (show kd 146 = (12, 0, 0) from rfl) (by decide)) (sh_12 rfl _ _) rfl (q_X12_keeps (ac := z11) (ez11) ⟨by omega, by omega⟩  hI) gv_X12_242 hv_X12_keeps ⟨(Nat.le_of_ble_eq_true rfl), (Nat.le_of_ble_eq_true rfl)⟩ hl.1 rfl (Nat.le_of_ble_eq_true rfl) ⟨Nat.zero_le _, Nat.zero_le _⟩ dX12_tone_37 (fun N13 H locs hp w => ?_)
        obtain ⟨hIN13, hFN13⟩ := hp
        have hGN13 := Fr.tr hF hFN13 (S := (fun b9 k9 => (b9 = 146 ∧ k9 = 20) ∨ b9 = 147 ∨ b9 = 155)) (fun b k h => by (try dsimp only at h ⊢); rcases h with ⟨rfl, rfl⟩ | rfl <;> first | decide | omega)
        have kn15 : N13.1 147 0 = zI z1 := (hFN13 147 0 (by first | decide | (dsimp only; first | done | decide | omega) | omega)).trans (ez1)
        refine lv_aload_n hx hb dX12_tone_40 rfl (lv_at hl 0 rfl) ?_
        refine f_12_1 F w (a := 146) rfl tb_580 dX12_tone_41 ?_
        refine lv_iload_n hx hb dX12_tone_44 rfl (lv_at hl 1 rfl) ?_
        refine lv_iload_n hx hb dX12_tone_45 rfl (lv_at hl 2 rfl) ?_
        refine k_Sv F w (As := [.ref (B + 147), .int (zI t), .int (zI x)]) (rest := []) (q_insert_147 (t := t) ⟨by omega, by omega⟩ (x := x) ⟨by omega, by omega⟩ (nn := z1) (kn15) ⟨by omega, by omega⟩ (by omega) (by omega) hIN13) gs_X12_112 hs_X12_insert ⟨(Nat.le_of_ble_eq_true rfl), (Nat.le_of_ble_eq_true rfl)⟩ hl.1 rfl (Nat.le_of_ble_eq_true rfl) ⟨Nat.zero_le _, Nat.zero_le _⟩ dX12_tone_46 (fun N17 H locs hp w => ?_)
        obtain ⟨yN17_147_0, hIN17, hFN17⟩ := hp
        have hGN17 := Fr.tr hGN13 hFN17 (S := (fun b9 k9 => (b9 = 146 ∧ k9 = 20) ∨ b9 = 147 ∨ b9 = 155)) (fun b k h => by (try dsimp only at h ⊢); rcases h with rfl <;> first | decide | omega)
        refine lv_iconst (v := zI 1) hx hb dX12_tone_49 rfl ?_
        rw [hQ]
        exact e_z F w hr hlocks (nar_z (by omega)) ⟨_, rfl, ⟨by omega, by omega⟩, hIN17, hGN17⟩ dX12_tone_50
      · refine lv_iconst (v := zI 0) hx hb dX12_tone_34 rfl ?_
        rw [hQ]
        exact e_z F w hr hlocks (nar_z (by omega)) ⟨_, rfl, ⟨by omega, by omega⟩, hI, hF⟩ dX12_tone_35
theorem dX12_hush_0 : decode cX12_hush 0 = .ok (.aload_n 0, 1) := wdX12_hush_0
theorem dX12_hush_1 : decode cX12_hush 1 = .ok (.getfield 13, 3) := wdX12_hush_1
theorem dX12_hush_4 : decode cX12_hush 4 = .ok (.iload_n 1, 1) := wdX12_hush_4
theorem dX12_hush_5 : decode cX12_hush 5 = .ok (.invokestatic 105, 3) := wdX12_hush_5
theorem dX12_hush_8 : decode cX12_hush 8 = .ok (.ifCond .ne 5, 3) := wdX12_hush_8
theorem dX12_hush_13 : decode cX12_hush 13 = .ok (.aload_n 0, 1) := wdX12_hush_13
theorem dX12_hush_14 : decode cX12_hush 14 = .ok (.invokevirtual 242, 3) := wdX12_hush_14
theorem dX12_hush_17 : decode cX12_hush 17 = .ok (.aload_n 0, 1) := wdX12_hush_17
theorem dX12_hush_18 : decode cX12_hush 18 = .ok (.getfield 13, 3) := wdX12_hush_18
theorem dX12_hush_21 : decode cX12_hush 21 = .ok (.iload_n 1, 1) := wdX12_hush_21
theorem dX12_hush_22 : decode cX12_hush 22 = .ok (.invokestatic 108, 3) := wdX12_hush_22
theorem dX12_hush_25 : decode cX12_hush 25 = .ok (.iconst 1, 1) := wdX12_hush_25
theorem dX12_hush_26 : decode cX12_hush 26 = .ok (.ireturn, 1) := wdX12_hush_26
theorem dX12_hush_11 : decode cX12_hush 11 = .ok (.iconst 0, 1) := wdX12_hush_11
theorem dX12_hush_12 : decode cX12_hush 12 = .ok (.ireturn, 1) := wdX12_hush_12
set_option maxRecDepth 4000 in
theorem q_X12_hush {l : Launch} {D : va_G} {B : Nat} {cy : Nat → ClassId} {M : Mem} {t : Int} (ht : (-2147483648) ≤ t ∧ t ≤ 2147483647) (hI : IvR M) : Ci l D B cy yX12_hush cX12_hush 2 (some .boolean) 2 43 [.ref (B + 146), .int (zI t)] M (fun r M1 => ∃ z : Int, r = zI z ∧ (0 ≤ z ∧ z ≤ 1) ∧ IvR M1 ∧ Fr (fun b9 k9 => (b9 = 146 ∧ k9 = 20) ∨ b9 = 147 ∨ b9 = 155) M1 M) := by
  refine s_anyQ (by decide) (Nat.le_of_ble_eq_true rfl) ?_
  intro p e s m args below meth c ls Q F hr hlocks hQ w hl
  have F : CallFix p m c cX12_hush 2 s args TB RX12 := F
  have hx := F.1
  have hb := F.2.1
  have hl : lv_has ls 2 [(0, .ref (B + 146)), (1, .int (zI t))] := hl
  have hF : Fr (fun b9 k9 => (b9 = 146 ∧ k9 = 20) ∨ b9 = 147 ∨ b9 = 155) M M := Fr.rf
  refine lv_aload_n hx hb dX12_hush_0 rfl (lv_at hl 0 rfl) ?_
  refine f_12_1 F w (a := 146) rfl tb_580 dX12_hush_1 ?_
  refine lv_iload_n hx hb dX12_hush_4 rfl (lv_at hl 1 rfl) ?_
  obtain ⟨z1, bz1, ez1⟩ := IvR.ld (k := 0) hI (show ivr 147 0 = (0, 12) from rfl) (show 146 ≤ 147 ∧ 147 < 159 by decide)
  refine k_Si F w (As := [.ref (B + 147), .int (zI t)]) (rest := []) (q_X12_isTone_147 (t := t) ⟨by omega, by omega⟩ (nn := z1) (ez1) ⟨by omega, by omega⟩  hI) gs_X12_105 hs_X12_isTone ⟨(Nat.le_of_ble_eq_true rfl), (Nat.le_of_ble_eq_true rfl)⟩ hl.1 rfl (Nat.le_of_ble_eq_true rfl) ⟨Nat.zero_le _, Nat.zero_le _⟩ dX12_hush_5 (fun r2 N3 H locs hp w => ?_)
  obtain ⟨z4, rfl, bz4, xz4, hMN3⟩ := hp
  rw [hMN3] at w
  refine z_if_ne (tgt := 13) hx hb (by omega) dX12_hush_8 (by decide) (fun c5 => ?_) (fun c5 => ?_)
  · refine lv_aload_n hx hb dX12_hush_13 rfl (lv_at hl 0 rfl) ?_
    obtain ⟨z6, bz6, ez6⟩ := IvR.ld (k := 20) hI (show ivr 146 20 = (0, 12) from rfl) (show 146 ≤ 146 ∧ 146 < 159 by decide)
    refine k_Vv F w (As := []) (rest := []) (a := 146) (kd_lt (a := 146) (show kd 146 = (12, 0, 0) from rfl) (by decide)) (sh_12 rfl _ _) rfl (q_X12_keeps (ac := z6) (ez6) ⟨by omega, by omega⟩  hI) gv_X12_242 hv_X12_keeps ⟨(Nat.le_of_ble_eq_true rfl), (Nat.le_of_ble_eq_true rfl)⟩ hl.1 rfl (Nat.le_of_ble_eq_true rfl) ⟨Nat.zero_le _, Nat.zero_le _⟩ dX12_hush_14 (fun N8 H locs hp w => ?_)
    obtain ⟨hIN8, hFN8⟩ := hp
    have hGN8 := Fr.tr hF hFN8 (S := (fun b9 k9 => (b9 = 146 ∧ k9 = 20) ∨ b9 = 147 ∨ b9 = 155)) (fun b k h => by (try dsimp only at h ⊢); rcases h with ⟨rfl, rfl⟩ | rfl <;> first | decide | omega)
    have kn10 : N8.1 147 0 = zI z1 := (hFN8 147 0 (by first | decide | (dsimp only; first | done | decide | omega) | omega)).trans (ez1)
    refine lv_aload_n hx hb dX12_hush_17 rfl (lv_at hl 0 rfl) ?_
    refine f_12_1 F w (a := 146) rfl tb_580 dX12_hush_18 ?_
    refine lv_iload_n hx hb dX12_hush_21 rfl (lv_at hl 1 rfl) ?_
    refine k_Sv F w (As := [.ref (B + 147), .int (zI t)]) (rest := []) (q_remove_147 (t := t) ⟨by omega, by omega⟩ (nn := z1) (kn10) ⟨by omega, by omega⟩ (by omega) hIN8) gs_X12_108 hs_X12_remove ⟨(Nat.le_of_ble_eq_true rfl), (Nat.le_of_ble_eq_true rfl)⟩ hl.1 rfl (Nat.le_of_ble_eq_true rfl) ⟨Nat.zero_le _, Nat.zero_le _⟩ dX12_hush_22 (fun N12 H locs hp w => ?_)
    obtain ⟨yN12_147_0, hIN12, hFN12⟩ := hp
    have hGN12 := Fr.tr hGN8 hFN12 (S := (fun b9 k9 => (b9 = 146 ∧ k9 = 20) ∨ b9 = 147 ∨ b9 = 155)) (fun b k h => by (try dsimp only at h ⊢); rcases h with rfl <;> first | decide | omega)
    refine lv_iconst (v := zI 1) hx hb dX12_hush_25 rfl ?_
    rw [hQ]
    exact e_z F w hr hlocks (nar_z (by omega)) ⟨_, rfl, ⟨by omega, by omega⟩, hIN12, hGN12⟩ dX12_hush_26
  · refine lv_iconst (v := zI 0) hx hb dX12_hush_11 rfl ?_
    rw [hQ]
    exact e_z F w hr hlocks (nar_z (by omega)) ⟨_, rfl, ⟨by omega, by omega⟩, hI, hF⟩ dX12_hush_12
theorem dX12_turn_0 : decode cX12_turn 0 = .ok (.aload_n 0, 1) := wdX12_turn_0
theorem dX12_turn_1 : decode cX12_turn 1 = .ok (.getfield 13, 3) := wdX12_turn_1
theorem dX12_turn_4 : decode cX12_turn 4 = .ok (.iload_n 1, 1) := wdX12_turn_4
theorem dX12_turn_5 : decode cX12_turn 5 = .ok (.invokestatic 105, 3) := wdX12_turn_5
theorem dX12_turn_8 : decode cX12_turn 8 = .ok (.ifCond .eq 24, 3) := wdX12_turn_8
theorem dX12_turn_32 : decode cX12_turn 32 = .ok (.iconst (-1), 1) := wdX12_turn_32
theorem dX12_turn_33 : decode cX12_turn 33 = .ok (.ireturn, 1) := wdX12_turn_33
theorem dX12_turn_11 : decode cX12_turn 11 = .ok (.iload_n 2, 1) := wdX12_turn_11
theorem dX12_turn_12 : decode cX12_turn 12 = .ok (.iconst 0, 1) := wdX12_turn_12
theorem dX12_turn_13 : decode cX12_turn 13 = .ok (.iconst 2, 1) := wdX12_turn_13
theorem dX12_turn_14 : decode cX12_turn 14 = .ok (.invokestatic 55, 3) := wdX12_turn_14
theorem dX12_turn_17 : decode cX12_turn 17 = .ok (.ifCond .eq 15, 3) := wdX12_turn_17
theorem dX12_turn_20 : decode cX12_turn 20 = .ok (.aload_n 0, 1) := wdX12_turn_20
theorem dX12_turn_21 : decode cX12_turn 21 = .ok (.getfield 13, 3) := wdX12_turn_21
theorem dX12_turn_24 : decode cX12_turn 24 = .ok (.iconst 1, 1) := wdX12_turn_24
theorem dX12_turn_25 : decode cX12_turn 25 = .ok (.iload_n 1, 1) := wdX12_turn_25
theorem dX12_turn_26 : decode cX12_turn 26 = .ok (.iadd, 1) := wdX12_turn_26
theorem dX12_turn_27 : decode cX12_turn 27 = .ok (.iaload, 1) := wdX12_turn_27
theorem dX12_turn_28 : decode cX12_turn 28 = .ok (.iload_n 2, 1) := wdX12_turn_28
theorem dX12_turn_29 : decode cX12_turn 29 = .ok (.if_icmp .ne 5, 3) := wdX12_turn_29
theorem dX12_turn_34 : decode cX12_turn 34 = .ok (.aload_n 0, 1) := wdX12_turn_34
theorem dX12_turn_35 : decode cX12_turn 35 = .ok (.invokevirtual 242, 3) := wdX12_turn_35
theorem dX12_turn_38 : decode cX12_turn 38 = .ok (.aload_n 0, 1) := wdX12_turn_38
theorem dX12_turn_39 : decode cX12_turn 39 = .ok (.getfield 13, 3) := wdX12_turn_39
theorem dX12_turn_42 : decode cX12_turn 42 = .ok (.iconst 1, 1) := wdX12_turn_42
theorem dX12_turn_43 : decode cX12_turn 43 = .ok (.iload_n 1, 1) := wdX12_turn_43
theorem dX12_turn_44 : decode cX12_turn 44 = .ok (.iadd, 1) := wdX12_turn_44
theorem dX12_turn_45 : decode cX12_turn 45 = .ok (.iaload, 1) := wdX12_turn_45
theorem dX12_turn_46 : decode cX12_turn 46 = .ok (.istore_n 3, 1) := wdX12_turn_46
theorem dX12_turn_47 : decode cX12_turn 47 = .ok (.aload_n 0, 1) := wdX12_turn_47
theorem dX12_turn_48 : decode cX12_turn 48 = .ok (.getfield 13, 3) := wdX12_turn_48
theorem dX12_turn_51 : decode cX12_turn 51 = .ok (.iconst 1, 1) := wdX12_turn_51
theorem dX12_turn_52 : decode cX12_turn 52 = .ok (.iload_n 1, 1) := wdX12_turn_52
theorem dX12_turn_53 : decode cX12_turn 53 = .ok (.iadd, 1) := wdX12_turn_53
theorem dX12_turn_54 : decode cX12_turn 54 = .ok (.iload_n 2, 1) := wdX12_turn_54
theorem dX12_turn_55 : decode cX12_turn 55 = .ok (.iastore, 1) := wdX12_turn_55
theorem dX12_turn_56 : decode cX12_turn 56 = .ok (.iload_n 3, 1) := wdX12_turn_56
theorem dX12_turn_57 : decode cX12_turn 57 = .ok (.ireturn, 1) := wdX12_turn_57
set_option maxRecDepth 4000 in
theorem q_X12_turn {l : Launch} {D : va_G} {B : Nat} {cy : Nat → ClassId} {M : Mem} {t : Int} (ht : (-2147483648) ≤ t ∧ t ≤ 2147483647) {x : Int} (hx : (-2147483648) ≤ x ∧ x ≤ 2147483647) (hI : IvR M) : Ci l D B cy yX12_turn cX12_turn 4 (some .int) 2 43 [.ref (B + 146), .int (zI t), .int (zI x)] M (fun r M1 => ∃ z : Int, r = zI z ∧ ((-99) ≤ z ∧ z ≤ 300) ∧ IvR M1 ∧ Fr (fun b9 k9 => (b9 = 146 ∧ k9 = 20) ∨ b9 = 155 ∨ (b9 = 147 ∧ 1 ≤ k9 ∧ k9 ≤ 12)) M1 M) := by
  refine s_anyQ (by decide) (Nat.le_of_ble_eq_true rfl) ?_
  intro p e s m args below meth c ls Q F hr hlocks hQ w hl
  have F : CallFix p m c cX12_turn 4 s args TB RX12 := F
  have hx := F.1
  have hb := F.2.1
  have hl : lv_has ls 4 [(0, .ref (B + 146)), (1, .int (zI t)), (2, .int (zI x))] := hl
  have hF : Fr (fun b9 k9 => (b9 = 146 ∧ k9 = 20) ∨ b9 = 155 ∨ (b9 = 147 ∧ 1 ≤ k9 ∧ k9 ≤ 12)) M M := Fr.rf
  refine lv_aload_n hx hb dX12_turn_0 rfl (lv_at hl 0 rfl) ?_
  refine f_12_1 F w (a := 146) rfl tb_580 dX12_turn_1 ?_
  refine lv_iload_n hx hb dX12_turn_4 rfl (lv_at hl 1 rfl) ?_
  obtain ⟨z1, bz1, ez1⟩ := IvR.ld (k := 0) hI (show ivr 147 0 = (0, 12) from rfl) (show 146 ≤ 147 ∧ 147 < 159 by decide)
  refine k_Si F w (As := [.ref (B + 147), .int (zI t)]) (rest := []) (q_X12_isTone_147 (t := t) ⟨by omega, by omega⟩ (nn := z1) (ez1) ⟨by omega, by omega⟩  hI) gs_X12_105 hs_X12_isTone ⟨(Nat.le_of_ble_eq_true rfl), (Nat.le_of_ble_eq_true rfl)⟩ hl.1 rfl (Nat.le_of_ble_eq_true rfl) ⟨Nat.zero_le _, Nat.zero_le _⟩ dX12_turn_5 (fun r2 N3 H locs hp w => ?_)
  obtain ⟨z4, rfl, bz4, xz4, hMN3⟩ := hp
  rw [hMN3] at w
  refine z_if_eq (tgt := 32) hx hb (by omega) dX12_turn_8 (by decide) (fun c5 => ?_) (fun c5 => ?_)
  · refine lv_iconst (v := zI (-1)) hx hb dX12_turn_32 rfl ?_
    rw [hQ]
    exact e_i F w hr hlocks ⟨_, rfl, ⟨by omega, by omega⟩, hI, hF⟩ dX12_turn_33
  · refine lv_iload_n hx hb dX12_turn_11 rfl (lv_at hl 2 rfl) ?_
    refine lv_iconst (v := zI 0) hx hb dX12_turn_12 rfl ?_
    refine lv_iconst (v := zI 2) hx hb dX12_turn_13 rfl ?_
    refine k_Si F w (As := [.int (zI x), .int (zI 0), .int (zI 2)]) (rest := []) (q_X12_in (x := x) ⟨by omega, by omega⟩ (x1 := 0) ⟨by omega, by omega⟩ (x2 := 2) ⟨by omega, by omega⟩  hI) gs_X12_55 hs_X12_in ⟨(Nat.le_of_ble_eq_true rfl), (Nat.le_of_ble_eq_true rfl)⟩ hl.1 rfl (Nat.le_of_ble_eq_true rfl) ⟨Nat.zero_le _, Nat.zero_le _⟩ dX12_turn_14 (fun r6 N7 H locs hp w => ?_)
    obtain ⟨z8, rfl, bz8, xz8, hMN7⟩ := hp
    rw [hMN7] at w
    refine z_if_eq (tgt := 32) hx hb (by omega) dX12_turn_17 (by decide) (fun c9 => ?_) (fun c9 => ?_)
    · refine lv_iconst (v := zI (-1)) hx hb dX12_turn_32 rfl ?_
      rw [hQ]
      exact e_i F w hr hlocks ⟨_, rfl, ⟨by omega, by omega⟩, hI, hF⟩ dX12_turn_33
    · refine lv_aload_n hx hb dX12_turn_20 rfl (lv_at hl 0 rfl) ?_
      refine f_12_1 F w (a := 146) rfl tb_580 dX12_turn_21 ?_
      refine lv_iconst (v := zI 1) hx hb dX12_turn_24 rfl ?_
      refine lv_iload_n hx hb dX12_turn_25 rfl (lv_at hl 1 rfl) ?_
      refine z_iadd (z := (t + 1)) hx hb dX12_turn_26 (by omega) ?_
      refine g_iald F w (a := 147) rfl (j := (Int.toNat (t + 1))) (ix_z (by omega) (by omega)) (by omega) dX12_turn_27 ?_
      obtain ⟨z10, bz10, ez10⟩ := IvR.ld (k := (Int.toNat (t + 1))) hI (wiv_k (a := 147) (k := (Int.toNat (t + 1))) (by omega) (by omega)) (show 146 ≤ 147 ∧ 147 < 159 by decide)
      refine r_val ez10 ?_
      refine lv_iload_n hx hb dX12_turn_28 rfl (lv_at hl 2 rfl) ?_
      refine z_icmp_ne (tgt := 34) hx hb (by omega) (by omega) dX12_turn_29 (by decide) (fun c11 => ?_) (fun c11 => ?_)
      · refine lv_aload_n hx hb dX12_turn_34 rfl (lv_at hl 0 rfl) ?_
        obtain ⟨z12, bz12, ez12⟩ := IvR.ld (k := 20) hI (show ivr 146 20 = (0, 12) from rfl) (show 146 ≤ 146 ∧ 146 < 159 by decide)
        refine k_Vv F w (As := []) (rest := []) (a := 146) (kd_lt (a := 146) (show kd 146 = (12, 0, 0) from rfl) (by decide)) (sh_12 rfl _ _) rfl (q_X12_keeps (ac := z12) (ez12) ⟨by omega, by omega⟩  hI) gv_X12_242 hv_X12_keeps ⟨(Nat.le_of_ble_eq_true rfl), (Nat.le_of_ble_eq_true rfl)⟩ hl.1 rfl (Nat.le_of_ble_eq_true rfl) ⟨Nat.zero_le _, Nat.zero_le _⟩ dX12_turn_35 (fun N14 H locs hp w => ?_)
        obtain ⟨hIN14, hFN14⟩ := hp
        have hGN14 := Fr.tr hF hFN14 (S := (fun b9 k9 => (b9 = 146 ∧ k9 = 20) ∨ b9 = 155 ∨ (b9 = 147 ∧ 1 ≤ k9 ∧ k9 ≤ 12))) (fun b k h => by (try dsimp only at h ⊢); rcases h with ⟨rfl, rfl⟩ | rfl <;> first | decide | omega)
        have kn16 : N14.1 147 0 = zI z1 := (hFN14 147 0 (by first | decide | (dsimp only; first | done | decide | omega) | omega)).trans (ez1)
        refine lv_aload_n hx hb dX12_turn_38 rfl (lv_at hl 0 rfl) ?_
        refine f_12_1 F w (a := 146) rfl tb_580 dX12_turn_39 ?_
        refine lv_iconst (v := zI 1) hx hb dX12_turn_42 rfl ?_
        refine lv_iload_n hx hb dX12_turn_43 rfl (lv_at hl 1 rfl) ?_
        refine z_iadd (z := (t + 1)) hx hb dX12_turn_44 (by omega) ?_
        refine g_iald F w (a := 147) rfl (j := (Int.toNat (t + 1))) (ix_z (by omega) (by omega)) (by omega) dX12_turn_45 ?_
        obtain ⟨z17, bz17, ez17⟩ := IvR.ld (k := (Int.toNat (t + 1))) hIN14 (wiv_k (a := 147) (k := (Int.toNat (t + 1))) (by omega) (by omega)) (show 146 ≤ 147 ∧ 147 < 159 by decide)
        refine r_val ez17 ?_
        refine lv_istore_n (lv' := [(3, .int (zI z17)), (0, .ref (B + 146)), (1, .int (zI t)), (2, .int (zI x))]) hx hb dX12_turn_46 rfl hl (by decide) rfl (fun ls hl => ?_)
        refine lv_aload_n hx hb dX12_turn_47 rfl (lv_at hl 1 rfl) ?_
        refine f_12_1 F w (a := 146) rfl tb_580 dX12_turn_48 ?_
        refine lv_iconst (v := zI 1) hx hb dX12_turn_51 rfl ?_
        refine lv_iload_n hx hb dX12_turn_52 rfl (lv_at hl 2 rfl) ?_
        refine z_iadd (z := (t + 1)) hx hb dX12_turn_53 (by omega) ?_
        refine lv_iload_n hx hb dX12_turn_54 rfl (lv_at hl 3 rfl) ?_
        refine g_iast F w (a := 147) rfl (j := (Int.toNat (t + 1))) (ix_z (by omega) (by omega)) (by omega) dX12_turn_55 (fun H locs w => ?_)
        refine lv_iload_n hx hb dX12_turn_56 rfl (lv_at hl 0 rfl) ?_
        rw [hQ]
        exact e_i F w hr hlocks ⟨_, rfl, ⟨by omega, by omega⟩, (IvR.to hIN14 (a := 147) (k := (Int.toNat (t + 1))) (x := x) (wiv_k (a := 147) (k := (Int.toNat (t + 1))) (by omega) (by omega)) ⟨by omega, by omega⟩ ⟨by decide, by decide, by decide, fun _ => ⟨by omega, by omega⟩⟩), (Fr.to hGN14 (by first | decide | (dsimp only; first | done | decide | omega) | omega))⟩ dX12_turn_57
      · refine lv_iconst (v := zI (-1)) hx hb dX12_turn_32 rfl ?_
        rw [hQ]
        exact e_i F w hr hlocks ⟨_, rfl, ⟨by omega, by omega⟩, hI, hF⟩ dX12_turn_33
theorem dX12_grow_0 : decode cX12_grow 0 = .ok (.aload_n 0, 1) := wdX12_grow_0
theorem dX12_grow_1 : decode cX12_grow 1 = .ok (.getfield 13, 3) := wdX12_grow_1
theorem dX12_grow_4 : decode cX12_grow 4 = .ok (.bipush 25, 2) := wdX12_grow_4
theorem dX12_grow_6 : decode cX12_grow 6 = .ok (.iaload, 1) := wdX12_grow_6
theorem dX12_grow_7 : decode cX12_grow 7 = .ok (.istore_n 3, 1) := wdX12_grow_7
theorem dX12_grow_8 : decode cX12_grow 8 = .ok (.iload_n 3, 1) := wdX12_grow_8
theorem dX12_grow_9 : decode cX12_grow 9 = .ok (.bipush 12, 2) := wdX12_grow_9
theorem dX12_grow_11 : decode cX12_grow 11 = .ok (.if_icmp .ne 5, 3) := wdX12_grow_11
theorem dX12_grow_16 : decode cX12_grow 16 = .ok (.aload_n 0, 1) := wdX12_grow_16
theorem dX12_grow_17 : decode cX12_grow 17 = .ok (.invokevirtual 242, 3) := wdX12_grow_17
theorem dX12_grow_20 : decode cX12_grow 20 = .ok (.aload_n 0, 1) := wdX12_grow_20
theorem dX12_grow_21 : decode cX12_grow 21 = .ok (.getfield 13, 3) := wdX12_grow_21
theorem dX12_grow_24 : decode cX12_grow 24 = .ok (.bipush 25, 2) := wdX12_grow_24
theorem dX12_grow_26 : decode cX12_grow 26 = .ok (.dup2, 1) := wdX12_grow_26
theorem dX12_grow_27 : decode cX12_grow 27 = .ok (.iaload, 1) := wdX12_grow_27
theorem dX12_grow_28 : decode cX12_grow 28 = .ok (.iconst 1, 1) := wdX12_grow_28
theorem dX12_grow_29 : decode cX12_grow 29 = .ok (.iadd, 1) := wdX12_grow_29
theorem dX12_grow_30 : decode cX12_grow 30 = .ok (.iastore, 1) := wdX12_grow_30
theorem dX12_grow_31 : decode cX12_grow 31 = .ok (.aload_n 0, 1) := wdX12_grow_31
theorem dX12_grow_32 : decode cX12_grow 32 = .ok (.iload_n 3, 1) := wdX12_grow_32
theorem dX12_grow_33 : decode cX12_grow 33 = .ok (.iload_n 1, 1) := wdX12_grow_33
theorem dX12_grow_34 : decode cX12_grow 34 = .ok (.iload_n 2, 1) := wdX12_grow_34
theorem dX12_grow_35 : decode cX12_grow 35 = .ok (.invokevirtual 245, 3) := wdX12_grow_35
theorem tk_X12_marks : Cond.code yX12_marks cX12_marks 5 none ∈ TB := wtk_X12_marks
theorem gc_X12_marks : GoodIn TB (cw yX12_marks cX12_marks 5 none) := goodIn_c2 tk_X12_marks
theorem tb_683 : Cond.methodLink "ToneLinesModel" 245 yX12_marks ∈ TB := wtb_288
theorem tb_684 : Cond.instanceMethod yX12_marks ∈ TB := wtb_289
theorem tb_685 : Cond.selects "ToneLinesModel" yX12_marks yX12_marks ∈ TB := wtb_290
theorem gv_X12_245 : GoodIn TB (wsV RX12 245 RX12 yX12_marks (cw yX12_marks cX12_marks 5 none)) := goodIn_4 tb_683 tb_684 tb_685 tb_38 gc_X12_marks
theorem hv_X12_marks : yX12_marks.cls = RX12 ∧ yX12_marks.cls ≠ "java/lang/invoke/MethodHandle" ∧ yX12_marks.cls ≠ "java/lang/invoke/VarHandle" ∧ (parseMethodDescriptor yX12_marks.desc).map (fun d => d.parameters.length) = some 3 := whv_X12_marks
theorem dX12_grow_38 : decode cX12_grow 38 = .ok (.iconst 1, 1) := wdX12_grow_38
theorem dX12_grow_39 : decode cX12_grow 39 = .ok (.ireturn, 1) := wdX12_grow_39
theorem dX12_grow_14 : decode cX12_grow 14 = .ok (.iconst 0, 1) := wdX12_grow_14
theorem dX12_grow_15 : decode cX12_grow 15 = .ok (.ireturn, 1) := wdX12_grow_15
set_option maxRecDepth 4000 in
theorem q_X12_grow {l : Launch} {D : va_G} {B : Nat} {cy : Nat → ClassId} {M : Mem} {x : Int} (hx : 0 ≤ x ∧ x ≤ 1) {x1 : Int} (hx1 : 0 ≤ x1 ∧ x1 ≤ 1) (hI : IvR M) : Ci l D B cy yX12_grow cX12_grow 4 (some .boolean) 1 24 [.ref (B + 146), .int (zI x), .int (zI x1)] M (fun r M1 => ∃ z : Int, r = zI z ∧ (0 ≤ z ∧ z ≤ 1) ∧ IvR M1 ∧ Fr (fun b9 k9 => (b9 = 146 ∧ k9 = 20) ∨ b9 = 155 ∨ (b9 = 147 ∧ 25 ≤ k9 ∧ k9 ≤ 25) ∨ (b9 = 147 ∧ 26 ≤ k9 ∧ k9 ≤ 26) ∨ (b9 = 147 ∧ 27 ≤ k9 ∧ k9 ≤ 27)) M1 M) := by
  refine s_anyQ (by decide) (Nat.le_of_ble_eq_true rfl) ?_
  intro p e s m args below meth c ls Q F hr hlocks hQ w hl
  have F : CallFix p m c cX12_grow 4 s args TB RX12 := F
  have hx := F.1
  have hb := F.2.1
  have hl : lv_has ls 4 [(0, .ref (B + 146)), (1, .int (zI x)), (2, .int (zI x1))] := hl
  have hF : Fr (fun b9 k9 => (b9 = 146 ∧ k9 = 20) ∨ b9 = 155 ∨ (b9 = 147 ∧ 25 ≤ k9 ∧ k9 ≤ 25) ∨ (b9 = 147 ∧ 26 ≤ k9 ∧ k9 ≤ 26) ∨ (b9 = 147 ∧ 27 ≤ k9 ∧ k9 ≤ 27)) M M := Fr.rf
  refine lv_aload_n hx hb dX12_grow_0 rfl (lv_at hl 0 rfl) ?_
  refine f_12_1 F w (a := 146) rfl tb_580 dX12_grow_1 ?_
  refine lv_bipush (v := zI 25) hx hb dX12_grow_4 (by decide) ?_
  refine g_iald F w (a := 147) rfl (j := 25) ⟨by decide, by decide⟩ (by omega) dX12_grow_6 ?_
  obtain ⟨z1, bz1, ez1⟩ := IvR.ld (k := 25) hI (show ivr 147 25 = (0, 12) from rfl) (show 146 ≤ 147 ∧ 147 < 159 by decide)
  refine r_val ez1 ?_
  refine lv_istore_n (lv' := [(3, .int (zI z1)), (0, .ref (B + 146)), (1, .int (zI x)), (2, .int (zI x1))]) hx hb dX12_grow_7 rfl hl (by decide) rfl (fun ls hl => ?_)
  refine lv_iload_n hx hb dX12_grow_8 rfl (lv_at hl 0 rfl) ?_
  refine lv_bipush (v := zI 12) hx hb dX12_grow_9 (by decide) ?_
  refine z_icmp_ne (tgt := 16) hx hb (by omega) (by omega) dX12_grow_11 (by decide) (fun c2 => ?_) (fun c2 => ?_)
  · refine lv_aload_n hx hb dX12_grow_16 rfl (lv_at hl 1 rfl) ?_
    obtain ⟨z3, bz3, ez3⟩ := IvR.ld (k := 20) hI (show ivr 146 20 = (0, 12) from rfl) (show 146 ≤ 146 ∧ 146 < 159 by decide)
    refine k_Vv F w (As := []) (rest := []) (a := 146) (kd_lt (a := 146) (show kd 146 = (12, 0, 0) from rfl) (by decide)) (sh_12 rfl _ _) rfl (q_X12_keeps (ac := z3) (ez3) ⟨by omega, by omega⟩  hI) gv_X12_242 hv_X12_keeps ⟨(Nat.le_of_ble_eq_true rfl), (Nat.le_of_ble_eq_true rfl)⟩ hl.1 rfl (Nat.le_of_ble_eq_true rfl) ⟨Nat.zero_le _, Nat.zero_le _⟩ dX12_grow_17 (fun N5 H locs hp w => ?_)
    obtain ⟨hIN5, hFN5⟩ := hp
    have hGN5 := Fr.tr hF hFN5 (S := (fun b9 k9 => (b9 = 146 ∧ k9 = 20) ∨ b9 = 155 ∨ (b9 = 147 ∧ 25 ≤ k9 ∧ k9 ≤ 25) ∨ (b9 = 147 ∧ 26 ≤ k9 ∧ k9 ≤ 26) ∨ (b9 = 147 ∧ 27 ≤ k9 ∧ k9 ≤ 27))) (fun b k h => by (try dsimp only at h ⊢); rcases h with ⟨rfl, rfl⟩ | rfl <;> first | decide | omega)
    have kn7 : N5.1 147 25 = zI z1 := (hFN5 147 25 (by first | decide | (dsimp only; first | done | decide | omega) | omega)).trans (ez1)
    refine lv_aload_n hx hb dX12_grow_20 rfl (lv_at hl 1 rfl) ?_
    refine f_12_1 F w (a := 146) rfl tb_580 dX12_grow_21 ?_
    refine lv_bipush (v := zI 25) hx hb dX12_grow_24 (by decide) ?_
    refine lv_dup2_11 hx hb dX12_grow_26 rfl rfl ?_
    refine g_iald F w (a := 147) rfl (j := 25) ⟨by decide, by decide⟩ (by omega) dX12_grow_27 ?_
    refine r_val (v := zI z1) (kn7) ?_
    refine lv_iconst (v := zI 1) hx hb dX12_grow_28 rfl ?_
    refine z_iadd (z := (z1 + 1)) hx hb dX12_grow_29 (by omega) ?_
    refine g_iast F w (a := 147) rfl (j := 25) ⟨by decide, by decide⟩ (by omega) dX12_grow_30 (fun H locs w => ?_)
    refine lv_aload_n hx hb dX12_grow_31 rfl (lv_at hl 1 rfl) ?_
    refine lv_iload_n hx hb dX12_grow_32 rfl (lv_at hl 0 rfl) ?_
    refine lv_iload_n hx hb dX12_grow_33 rfl (lv_at hl 2 rfl) ?_
    refine lv_iload_n hx hb dX12_grow_34 rfl (lv_at hl 3 rfl) ?_
    refine k_Vv F w (As := [.int (zI z1), .int (zI x), .int (zI x1)]) (rest := []) (a := 146) (kd_lt (a := 146) (show kd 146 = (12, 0, 0) from rfl) (by decide)) (sh_12 rfl _ _) rfl (q_X12_marks (y := z1) ⟨by omega, by omega⟩ (x := x) ⟨by omega, by omega⟩ (x1 := x1) ⟨by omega, by omega⟩  (IvR.to hIN5 (a := 147) (k := 25) (x := (z1 + 1)) (show ivr 147 25 = (0, 12) from rfl) ⟨by omega, by omega⟩ ⟨by decide, by decide, by decide, fun _ => ⟨by omega, by omega⟩⟩)) gv_X12_245 hv_X12_marks ⟨(Nat.le_of_ble_eq_true rfl), (Nat.le_of_ble_eq_true rfl)⟩ hl.1 rfl (Nat.le_of_ble_eq_true rfl) ⟨Nat.zero_le _, Nat.zero_le _⟩ dX12_grow_35 (fun N9 H locs hp w => ?_)
    obtain ⟨hIN9, hFN9⟩ := hp
    have hGN9 := Fr.tr (Fr.to hGN5 (by first | decide | (dsimp only; first | done | decide | omega) | omega)) hFN9 (S := (fun b9 k9 => (b9 = 146 ∧ k9 = 20) ∨ b9 = 155 ∨ (b9 = 147 ∧ 25 ≤ k9 ∧ k9 ≤ 25) ∨ (b9 = 147 ∧ 26 ≤ k9 ∧ k9 ≤ 26) ∨ (b9 = 147 ∧ 27 ≤ k9 ∧ k9 ≤ 27))) (fun b k h => by (try dsimp only at h ⊢); rcases h with ⟨rfl, q1, q2⟩ | ⟨rfl, q1, q2⟩ <;> first | decide | omega)
    have kn11 : N9.1 147 25 = zI (z1 + 1) := (hFN9 147 25 (by first | decide | (dsimp only; first | done | decide | omega) | omega)).trans (st_at)
    refine lv_iconst (v := zI 1) hx hb dX12_grow_38 rfl ?_
    rw [hQ]
    exact e_z F w hr hlocks (nar_z (by omega)) ⟨_, rfl, ⟨by omega, by omega⟩, hIN9, hGN9⟩ dX12_grow_39
  · refine lv_iconst (v := zI 0) hx hb dX12_grow_14 rfl ?_
    rw [hQ]
    exact e_z F w hr hlocks (nar_z (by omega)) ⟨_, rfl, ⟨by omega, by omega⟩, hI, hF⟩ dX12_grow_15
theorem dX12_shrink_0 : decode cX12_shrink 0 = .ok (.aload_n 0, 1) := wdX12_shrink_0
theorem dX12_shrink_1 : decode cX12_shrink 1 = .ok (.getfield 13, 3) := wdX12_shrink_1
theorem dX12_shrink_4 : decode cX12_shrink 4 = .ok (.bipush 25, 2) := wdX12_shrink_4
theorem dX12_shrink_6 : decode cX12_shrink 6 = .ok (.iaload, 1) := wdX12_shrink_6
theorem dX12_shrink_7 : decode cX12_shrink 7 = .ok (.iconst 1, 1) := wdX12_shrink_7
theorem dX12_shrink_8 : decode cX12_shrink 8 = .ok (.isub, 1) := wdX12_shrink_8
theorem dX12_shrink_9 : decode cX12_shrink 9 = .ok (.istore_n 1, 1) := wdX12_shrink_9
theorem dX12_shrink_10 : decode cX12_shrink 10 = .ok (.iload_n 1, 1) := wdX12_shrink_10
theorem dX12_shrink_11 : decode cX12_shrink 11 = .ok (.ifCond .ge 5, 3) := wdX12_shrink_11
theorem dX12_shrink_16 : decode cX12_shrink 16 = .ok (.aload_n 0, 1) := wdX12_shrink_16
theorem dX12_shrink_17 : decode cX12_shrink 17 = .ok (.invokevirtual 242, 3) := wdX12_shrink_17
theorem dX12_shrink_20 : decode cX12_shrink 20 = .ok (.aload_n 0, 1) := wdX12_shrink_20
theorem dX12_shrink_21 : decode cX12_shrink 21 = .ok (.iload_n 1, 1) := wdX12_shrink_21
theorem dX12_shrink_22 : decode cX12_shrink 22 = .ok (.iconst 0, 1) := wdX12_shrink_22
theorem dX12_shrink_23 : decode cX12_shrink 23 = .ok (.iconst 0, 1) := wdX12_shrink_23
theorem dX12_shrink_24 : decode cX12_shrink 24 = .ok (.invokevirtual 245, 3) := wdX12_shrink_24
theorem dX12_shrink_27 : decode cX12_shrink 27 = .ok (.iconst 0, 1) := wdX12_shrink_27
theorem dX12_shrink_28 : decode cX12_shrink 28 = .ok (.istore_n 2, 1) := wdX12_shrink_28
theorem dX12_shrink_29 : decode cX12_shrink 29 = .ok (.iload_n 2, 1) := wdX12_shrink_29
theorem dX12_shrink_30 : decode cX12_shrink 30 = .ok (.aload_n 0, 1) := wdX12_shrink_30
theorem dX12_shrink_31 : decode cX12_shrink 31 = .ok (.getfield 13, 3) := wdX12_shrink_31
theorem dX12_shrink_34 : decode cX12_shrink 34 = .ok (.iconst 0, 1) := wdX12_shrink_34
theorem dX12_shrink_35 : decode cX12_shrink 35 = .ok (.iaload, 1) := wdX12_shrink_35
theorem dX12_shrink_36 : decode cX12_shrink 36 = .ok (.if_icmp .ge 26, 3) := wdX12_shrink_36
theorem dX12_shrink_62 : decode cX12_shrink 62 = .ok (.aload_n 0, 1) := wdX12_shrink_62
theorem dX12_shrink_63 : decode cX12_shrink 63 = .ok (.getfield 13, 3) := wdX12_shrink_63
theorem dX12_shrink_66 : decode cX12_shrink 66 = .ok (.bipush 25, 2) := wdX12_shrink_66
theorem dX12_shrink_68 : decode cX12_shrink 68 = .ok (.dup2, 1) := wdX12_shrink_68
theorem dX12_shrink_69 : decode cX12_shrink 69 = .ok (.iaload, 1) := wdX12_shrink_69
theorem dX12_shrink_70 : decode cX12_shrink 70 = .ok (.iconst 1, 1) := wdX12_shrink_70
theorem dX12_shrink_71 : decode cX12_shrink 71 = .ok (.isub, 1) := wdX12_shrink_71
theorem dX12_shrink_72 : decode cX12_shrink 72 = .ok (.iastore, 1) := wdX12_shrink_72
theorem dX12_shrink_73 : decode cX12_shrink 73 = .ok (.iconst 1, 1) := wdX12_shrink_73
theorem dX12_shrink_74 : decode cX12_shrink 74 = .ok (.ireturn, 1) := wdX12_shrink_74
theorem dX12_shrink_39 : decode cX12_shrink 39 = .ok (.aload_n 0, 1) := wdX12_shrink_39
theorem dX12_shrink_40 : decode cX12_shrink 40 = .ok (.getfield 13, 3) := wdX12_shrink_40
theorem dX12_shrink_43 : decode cX12_shrink 43 = .ok (.bipush 13, 2) := wdX12_shrink_43
theorem dX12_shrink_45 : decode cX12_shrink 45 = .ok (.iload_n 2, 1) := wdX12_shrink_45
theorem dX12_shrink_46 : decode cX12_shrink 46 = .ok (.iadd, 1) := wdX12_shrink_46
theorem dX12_shrink_47 : decode cX12_shrink 47 = .ok (.dup2, 1) := wdX12_shrink_47
theorem dX12_shrink_48 : decode cX12_shrink 48 = .ok (.iaload, 1) := wdX12_shrink_48
theorem dX12_shrink_49 : decode cX12_shrink 49 = .ok (.iconst 1, 1) := wdX12_shrink_49
theorem dX12_shrink_50 : decode cX12_shrink 50 = .ok (.iload_n 1, 1) := wdX12_shrink_50
theorem dX12_shrink_51 : decode cX12_shrink 51 = .ok (.ishl, 1) := wdX12_shrink_51
theorem dX12_shrink_52 : decode cX12_shrink 52 = .ok (.iconst (-1), 1) := wdX12_shrink_52
theorem dX12_shrink_53 : decode cX12_shrink 53 = .ok (.ixor, 1) := wdX12_shrink_53
theorem dX12_shrink_54 : decode cX12_shrink 54 = .ok (.iand, 1) := wdX12_shrink_54
theorem dX12_shrink_55 : decode cX12_shrink 55 = .ok (.iastore, 1) := wdX12_shrink_55
theorem dX12_shrink_56 : decode cX12_shrink 56 = .ok (.iinc 2 1, 3) := wdX12_shrink_56
theorem dX12_shrink_59 : decode cX12_shrink 59 = .ok (.goto (-30), 3) := wdX12_shrink_59
theorem dX12_shrink_14 : decode cX12_shrink 14 = .ok (.iconst 0, 1) := wdX12_shrink_14
theorem dX12_shrink_15 : decode cX12_shrink 15 = .ok (.ireturn, 1) := wdX12_shrink_15
set_option maxRecDepth 4000 in
theorem q_X12_shrink {l : Launch} {D : va_G} {B : Nat} {cy : Nat → ClassId} {M : Mem}  (hI : IvR M) : Ci l D B cy yX12_shrink cX12_shrink 3 (some .boolean) 1 24 [.ref (B + 146)] M (fun r M1 => ∃ z : Int, r = zI z ∧ (0 ≤ z ∧ z ≤ 1) ∧ IvR M1 ∧ Fr (fun b9 k9 => (b9 = 146 ∧ k9 = 20) ∨ b9 = 155 ∨ (b9 = 147 ∧ 13 ≤ k9 ∧ k9 ≤ 24) ∨ (b9 = 147 ∧ 25 ≤ k9 ∧ k9 ≤ 25) ∨ (b9 = 147 ∧ 26 ≤ k9 ∧ k9 ≤ 26) ∨ (b9 = 147 ∧ 27 ≤ k9 ∧ k9 ≤ 27)) M1 M) := by
  refine s_anyQ (by decide) (Nat.le_of_ble_eq_true rfl) ?_
  intro p e s m args below meth c ls Q F hr hlocks hQ w hl
  have F : CallFix p m c cX12_shrink 3 s args TB RX12 := F
  have hx := F.1
  have hb := F.2.1
  have hl : lv_has ls 3 [(0, .ref (B + 146))] := hl
  have hF : Fr (fun b9 k9 => (b9 = 146 ∧ k9 = 20) ∨ b9 = 155 ∨ (b9 = 147 ∧ 13 ≤ k9 ∧ k9 ≤ 24) ∨ (b9 = 147 ∧ 25 ≤ k9 ∧ k9 ≤ 25) ∨ (b9 = 147 ∧ 26 ≤ k9 ∧ k9 ≤ 26) ∨ (b9 = 147 ∧ 27 ≤ k9 ∧ k9 ≤ 27)) M M := Fr.rf
  refine lv_aload_n hx hb dX12_shrink_0 rfl (lv_at hl 0 rfl) ?_
  refine f_12_1 F w (a := 146) rfl tb_580 dX12_shrink_1 ?_
  refine lv_bipush (v := zI 25) hx hb dX12_shrink_4 (by decide) ?_
  refine g_iald F w (a := 147) rfl (j := 25) ⟨by decide, by decide⟩ (by omega) dX12_shrink_6 ?_
  obtain ⟨z1, bz1, ez1⟩ := IvR.ld (k := 25) hI (show ivr 147 25 = (0, 12) from rfl) (show 146 ≤ 147 ∧ 147 < 159 by decide)
  refine r_val ez1 ?_
  refine lv_iconst (v := zI 1) hx hb dX12_shrink_7 rfl ?_
  refine z_isub (z := (z1 - 1)) hx hb dX12_shrink_8 (by omega) ?_
  refine lv_istore_n (lv' := [(1, .int (zI (z1 - 1))), (0, .ref (B + 146))]) hx hb dX12_shrink_9 rfl hl (by decide) rfl (fun ls hl => ?_)
  refine lv_iload_n hx hb dX12_shrink_10 rfl (lv_at hl 0 rfl) ?_
  refine z_if_ge (tgt := 16) hx hb (by omega) dX12_shrink_11 (by decide) (fun c2 => ?_) (fun c2 => ?_)
  · refine lv_aload_n hx hb dX12_shrink_16 rfl (lv_at hl 1 rfl) ?_
    obtain ⟨z3, bz3, ez3⟩ := IvR.ld (k := 20) hI (show ivr 146 20 = (0, 12) from rfl) (show 146 ≤ 146 ∧ 146 < 159 by decide)
    refine k_Vv F w (As := []) (rest := []) (a := 146) (kd_lt (a := 146) (show kd 146 = (12, 0, 0) from rfl) (by decide)) (sh_12 rfl _ _) rfl (q_X12_keeps (ac := z3) (ez3) ⟨by omega, by omega⟩  hI) gv_X12_242 hv_X12_keeps ⟨(Nat.le_of_ble_eq_true rfl), (Nat.le_of_ble_eq_true rfl)⟩ hl.1 rfl (Nat.le_of_ble_eq_true rfl) ⟨Nat.zero_le _, Nat.zero_le _⟩ dX12_shrink_17 (fun N5 H locs hp w => ?_)
    obtain ⟨hIN5, hFN5⟩ := hp
    have hGN5 := Fr.tr hF hFN5 (S := (fun b9 k9 => (b9 = 146 ∧ k9 = 20) ∨ b9 = 155 ∨ (b9 = 147 ∧ 13 ≤ k9 ∧ k9 ≤ 24) ∨ (b9 = 147 ∧ 25 ≤ k9 ∧ k9 ≤ 25) ∨ (b9 = 147 ∧ 26 ≤ k9 ∧ k9 ≤ 26) ∨ (b9 = 147 ∧ 27 ≤ k9 ∧ k9 ≤ 27))) (fun b k h => by (try dsimp only at h ⊢); rcases h with ⟨rfl, rfl⟩ | rfl <;> first | decide | omega)
    have kn7 : N5.1 147 25 = zI z1 := (hFN5 147 25 (by first | decide | (dsimp only; first | done | decide | omega) | omega)).trans (ez1)
    refine lv_aload_n hx hb dX12_shrink_20 rfl (lv_at hl 1 rfl) ?_
    refine lv_iload_n hx hb dX12_shrink_21 rfl (lv_at hl 0 rfl) ?_
    refine lv_iconst (v := zI 0) hx hb dX12_shrink_22 rfl ?_
    refine lv_iconst (v := zI 0) hx hb dX12_shrink_23 rfl ?_
    refine k_Vv F w (As := [.int (zI (z1 - 1)), .int (zI 0), .int (zI 0)]) (rest := []) (a := 146) (kd_lt (a := 146) (show kd 146 = (12, 0, 0) from rfl) (by decide)) (sh_12 rfl _ _) rfl (q_X12_marks (y := (z1 - 1)) ⟨by omega, by omega⟩ (x := 0) ⟨by omega, by omega⟩ (x1 := 0) ⟨by omega, by omega⟩  hIN5) gv_X12_245 hv_X12_marks ⟨(Nat.le_of_ble_eq_true rfl), (Nat.le_of_ble_eq_true rfl)⟩ hl.1 rfl (Nat.le_of_ble_eq_true rfl) ⟨Nat.zero_le _, Nat.zero_le _⟩ dX12_shrink_24 (fun N9 H locs hp w => ?_)
    obtain ⟨hIN9, hFN9⟩ := hp
    have hGN9 := Fr.tr hGN5 hFN9 (S := (fun b9 k9 => (b9 = 146 ∧ k9 = 20) ∨ b9 = 155 ∨ (b9 = 147 ∧ 13 ≤ k9 ∧ k9 ≤ 24) ∨ (b9 = 147 ∧ 25 ≤ k9 ∧ k9 ≤ 25) ∨ (b9 = 147 ∧ 26 ≤ k9 ∧ k9 ≤ 26) ∨ (b9 = 147 ∧ 27 ≤ k9 ∧ k9 ≤ 27))) (fun b k h => by (try dsimp only at h ⊢); rcases h with ⟨rfl, q1, q2⟩ | ⟨rfl, q1, q2⟩ <;> first | decide | omega)
    have kn11 : N9.1 147 25 = zI z1 := (hFN9 147 25 (by first | decide | (dsimp only; first | done | decide | omega) | omega)).trans (kn7)
    refine lv_iconst (v := zI 0) hx hb dX12_shrink_27 rfl ?_
    refine lv_istore_n (lv' := [(2, .int (zI 0)), (1, .int (zI (z1 - 1))), (0, .ref (B + 146))]) hx hb dX12_shrink_28 rfl hl (by decide) rfl (fun ls hl => ?_)
    have lp29 : ∀ (f : Nat) (v2_29 : Int)  (NL29 : Mem), (0 ≤ v2_29 ∧ v2_29 ≤ 12) → NL29.1 147 25 = zI z1 → IvR NL29 → Fr (fun b9 k9 => (b9 = 146 ∧ k9 = 20) ∨ b9 = 155 ∨ (b9 = 147 ∧ 13 ≤ k9 ∧ k9 ≤ 24) ∨ (b9 = 147 ∧ 25 ≤ k9 ∧ k9 ≤ 25) ∨ (b9 = 147 ∧ 26 ≤ k9 ∧ k9 ≤ 26) ∨ (b9 = 147 ∧ 27 ≤ k9 ∧ k9 ≤ 27)) NL29 M → (Int.toNat (12 - v2_29) < f) → ∀ (H : Heap) (locs : List Loc) (ls : Array Slot), Wd D B cy s s.heap NL29 H locs → lv_has ls 3 [(2, .int (zI v2_29)), (1, .int (zI (z1 - 1))), (0, .ref (B + 146))] → W p l e (rmm 1 24) s m args below meth c H locs 0 0 Q (F0 m 29 ls []) := by
      intro f
      induction f with
      | zero => intros; omega
      | succ f ih29 =>
        intro v2_29  NL29 iv2_29 eg147_25_29 hIL29 hFL29 hf29 H locs ls w hl
        refine lv_iload_n hx hb dX12_shrink_29 rfl (lv_at hl 0 rfl) ?_
        refine lv_aload_n hx hb dX12_shrink_30 rfl (lv_at hl 2 rfl) ?_
        refine f_12_1 F w (a := 146) rfl tb_580 dX12_shrink_31 ?_
        refine lv_iconst (v := zI 0) hx hb dX12_shrink_34 rfl ?_
        refine g_iald F w (a := 147) rfl (j := 0) ⟨by decide, by decide⟩ (by omega) dX12_shrink_35 ?_
        obtain ⟨z12, bz12, ez12⟩ := IvR.ld (k := 0) hIL29 (show ivr 147 0 = (0, 12) from rfl) (show 146 ≤ 147 ∧ 147 < 159 by decide)
        refine r_val ez12 ?_
        refine z_icmp_ge (tgt := 62) hx hb (by omega) (by omega) dX12_shrink_36 (by decide) (fun c13 => ?_) (fun c13 => ?_)
        · refine lv_aload_n hx hb dX12_shrink_62 rfl (lv_at hl 2 rfl) ?_
          refine f_12_1 F w (a := 146) rfl tb_580 dX12_shrink_63 ?_
          refine lv_bipush (v := zI 25) hx hb dX12_shrink_66 (by decide) ?_
          refine lv_dup2_11 hx hb dX12_shrink_68 rfl rfl ?_
          refine g_iald F w (a := 147) rfl (j := 25) ⟨by decide, by decide⟩ (by omega) dX12_shrink_69 ?_
          refine r_val (v := zI z1) (eg147_25_29) ?_
          refine lv_iconst (v := zI 1) hx hb dX12_shrink_70 rfl ?_
          refine z_isub (z := (z1 - 1)) hx hb dX12_shrink_71 (by omega) ?_
          refine g_iast F w (a := 147) rfl (j := 25) ⟨by decide, by decide⟩ (by omega) dX12_shrink_72 (fun H locs w => ?_)
          refine lv_iconst (v := zI 1) hx hb dX12_shrink_73 rfl ?_
          rw [hQ]
          exact e_z F w hr hlocks (nar_z (by omega)) ⟨_, rfl, ⟨by omega, by omega⟩, (IvR.to hIL29 (a := 147) (k := 25) (x := (z1 - 1)) (show ivr 147 25 = (0, 12) from rfl) ⟨by omega, by omega⟩ ⟨by decide, by decide, by decide, fun _ => ⟨by omega, by omega⟩⟩), (Fr.to hFL29 (by first | decide | (dsimp only; first | done | decide | omega) | omega))⟩ dX12_shrink_74
        · refine lv_aload_n hx hb dX12_shrink_39 rfl (lv_at hl 2 rfl) ?_
          refine f_12_1 F w (a := 146) rfl tb_580 dX12_shrink_40 ?_
          refine lv_bipush (v := zI 13) hx hb dX12_shrink_43 (by decide) ?_
          refine lv_iload_n hx hb dX12_shrink_45 rfl (lv_at hl 0 rfl) ?_
          refine z_iadd (z := (v2_29 + 13)) hx hb dX12_shrink_46 (by omega) ?_
          refine lv_dup2_11 hx hb dX12_shrink_47 rfl rfl ?_
          refine g_iald F w (a := 147) rfl (j := (13 + Int.toNat v2_29)) (ix_l (t := v2_29) (by omega) (by omega)) (by omega) dX12_shrink_48 ?_
          obtain ⟨z14, bz14, ez14⟩ := IvR.ld (k := (13 + Int.toNat v2_29)) hIL29 (wiv_l (a := 147) (k := (13 + Int.toNat v2_29)) (by omega) (by omega)) (show 146 ≤ 147 ∧ 147 < 159 by decide)
          refine r_val ez14 ?_
          refine lv_iconst (v := zI 1) hx hb dX12_shrink_49 rfl ?_
          refine lv_iload_n hx hb dX12_shrink_50 rfl (lv_at hl 1 rfl) ?_
          obtain ⟨z15, bz15, x0z15, ez15⟩ := shl_ex 1 (z1 - 1)
          refine lv_ishl hx hb dX12_shrink_51 ?_
          refine r_val ez15 ?_
          refine lv_iconst (v := zI (-1)) hx hb dX12_shrink_52 rfl ?_
          refine lv_ixor hx hb dX12_shrink_53 ?_
          refine r_val (not_ex z15) ?_
          obtain ⟨z16, bz16, x0z16, x1z16, ez16⟩ := and_ex z14 (-z15 - 1) (by omega) (by omega)
          refine lv_iand hx hb dX12_shrink_54 ?_
          refine r_val ez16 ?_
          refine g_iast F w (a := 147) rfl (j := (13 + Int.toNat v2_29)) (ix_l (t := v2_29) (by omega) (by omega)) (by omega) dX12_shrink_55 (fun H locs w => ?_)
          refine z_iinc (v := (v2_29 + 1)) (lv' := [(2, .int (zI (v2_29 + 1))), (1, .int (zI (z1 - 1))), (0, .ref (B + 146))]) hx hb dX12_shrink_56 hl (k := 0) rfl (by omega) (by decide) rfl (fun ls hl => ?_)
          refine lv_goto (tgt := 29) hx hb dX12_shrink_59 (by decide) ?_
          exact ih29 (v2_29 + 1) (st NL29 147 (13 + Int.toNat v2_29) (zI z16)) (by omega)  ((st_ne (Or.inr (by omega))).trans eg147_25_29)  (IvR.toA hIL29 (a := 147) (k := (13 + Int.toNat v2_29)) (x := z16) (by omega) (by omega) (and_eq (ez14) ez16) (by omega)) (Fr.to hFL29 (by first | decide | (dsimp only; first | done | decide | omega) | omega)) (by omega) _ _ _ w (lv_sub hl [0, 1, 2] rfl)
    exact lp29 _ 0 N9 (by omega) (kn11) hIN9 hGN9 (Nat.lt_succ_self _) _ _ _ w (lv_sub hl [0, 1, 2] rfl)
  · refine lv_iconst (v := zI 0) hx hb dX12_shrink_14 rfl ?_
    rw [hQ]
    exact e_z F w hr hlocks (nar_z (by omega)) ⟨_, rfl, ⟨by omega, by omega⟩, hI, hF⟩ dX12_shrink_15
theorem dX12_mark_0 : decode cX12_mark 0 = .ok (.aload_n 0, 1) := wdX12_mark_0
theorem dX12_mark_1 : decode cX12_mark 1 = .ok (.getfield 13, 3) := wdX12_mark_1
theorem dX12_mark_4 : decode cX12_mark 4 = .ok (.iload_n 1, 1) := wdX12_mark_4
theorem dX12_mark_5 : decode cX12_mark 5 = .ok (.invokestatic 94, 3) := wdX12_mark_5
theorem dX12_mark_8 : decode cX12_mark 8 = .ok (.ifCond .eq 33, 3) := wdX12_mark_8
theorem dX12_mark_41 : decode cX12_mark 41 = .ok (.iconst 0, 1) := wdX12_mark_41
theorem dX12_mark_42 : decode cX12_mark 42 = .ok (.ireturn, 1) := wdX12_mark_42
theorem dX12_mark_11 : decode cX12_mark 11 = .ok (.aload_n 0, 1) := wdX12_mark_11
theorem dX12_mark_12 : decode cX12_mark 12 = .ok (.getfield 13, 3) := wdX12_mark_12
theorem dX12_mark_15 : decode cX12_mark 15 = .ok (.bipush 26, 2) := wdX12_mark_15
theorem dX12_mark_17 : decode cX12_mark 17 = .ok (.iaload, 1) := wdX12_mark_17
theorem dX12_mark_18 : decode cX12_mark 18 = .ok (.iload_n 1, 1) := wdX12_mark_18
theorem dX12_mark_19 : decode cX12_mark 19 = .ok (.invokestatic 51, 3) := wdX12_mark_19
theorem dX12_mark_22 : decode cX12_mark 22 = .ok (.iload_n 2, 1) := wdX12_mark_22
theorem dX12_mark_23 : decode cX12_mark 23 = .ok (.if_icmp .ne 20, 3) := wdX12_mark_23
theorem dX12_mark_43 : decode cX12_mark 43 = .ok (.aload_n 0, 1) := wdX12_mark_43
theorem dX12_mark_44 : decode cX12_mark 44 = .ok (.invokevirtual 242, 3) := wdX12_mark_44
theorem dX12_mark_47 : decode cX12_mark 47 = .ok (.aload_n 0, 1) := wdX12_mark_47
theorem dX12_mark_48 : decode cX12_mark 48 = .ok (.iload_n 1, 1) := wdX12_mark_48
theorem dX12_mark_49 : decode cX12_mark 49 = .ok (.iload_n 2, 1) := wdX12_mark_49
theorem dX12_mark_50 : decode cX12_mark 50 = .ok (.iload_n 3, 1) := wdX12_mark_50
theorem dX12_mark_51 : decode cX12_mark 51 = .ok (.invokevirtual 245, 3) := wdX12_mark_51
theorem dX12_mark_54 : decode cX12_mark 54 = .ok (.iconst 1, 1) := wdX12_mark_54
theorem dX12_mark_55 : decode cX12_mark 55 = .ok (.ireturn, 1) := wdX12_mark_55
theorem dX12_mark_26 : decode cX12_mark 26 = .ok (.aload_n 0, 1) := wdX12_mark_26
theorem dX12_mark_27 : decode cX12_mark 27 = .ok (.getfield 13, 3) := wdX12_mark_27
theorem dX12_mark_30 : decode cX12_mark 30 = .ok (.bipush 27, 2) := wdX12_mark_30
theorem dX12_mark_32 : decode cX12_mark 32 = .ok (.iaload, 1) := wdX12_mark_32
theorem dX12_mark_33 : decode cX12_mark 33 = .ok (.iload_n 1, 1) := wdX12_mark_33
theorem dX12_mark_34 : decode cX12_mark 34 = .ok (.invokestatic 51, 3) := wdX12_mark_34
theorem dX12_mark_37 : decode cX12_mark 37 = .ok (.iload_n 3, 1) := wdX12_mark_37
theorem dX12_mark_38 : decode cX12_mark 38 = .ok (.if_icmp .ne 5, 3) := wdX12_mark_38
set_option maxRecDepth 4000 in
theorem q_X12_mark {l : Launch} {D : va_G} {B : Nat} {cy : Nat → ClassId} {M : Mem} {y : Int} (hy : (-2147483648) ≤ y ∧ y ≤ 2147483647) {x : Int} (hx : 0 ≤ x ∧ x ≤ 1) {x1 : Int} (hx1 : 0 ≤ x1 ∧ x1 ≤ 1) (hI : IvR M) : Ci l D B cy yX12_mark cX12_mark 4 (some .boolean) 2 43 [.ref (B + 146), .int (zI y), .int (zI x), .int (zI x1)] M (fun r M1 => ∃ z : Int, r = zI z ∧ (0 ≤ z ∧ z ≤ 1) ∧ IvR M1 ∧ Fr (fun b9 k9 => (b9 = 146 ∧ k9 = 20) ∨ b9 = 155 ∨ (b9 = 147 ∧ 26 ≤ k9 ∧ k9 ≤ 26) ∨ (b9 = 147 ∧ 27 ≤ k9 ∧ k9 ≤ 27)) M1 M) := by
  refine s_anyQ (by decide) (Nat.le_of_ble_eq_true rfl) ?_
  intro p e s m args below meth c ls Q F hr hlocks hQ w hl
  have F : CallFix p m c cX12_mark 4 s args TB RX12 := F
  have hx := F.1
  have hb := F.2.1
  have hl : lv_has ls 4 [(0, .ref (B + 146)), (1, .int (zI y)), (2, .int (zI x)), (3, .int (zI x1))] := hl
  have hF : Fr (fun b9 k9 => (b9 = 146 ∧ k9 = 20) ∨ b9 = 155 ∨ (b9 = 147 ∧ 26 ≤ k9 ∧ k9 ≤ 26) ∨ (b9 = 147 ∧ 27 ≤ k9 ∧ k9 ≤ 27)) M M := Fr.rf
  refine lv_aload_n hx hb dX12_mark_0 rfl (lv_at hl 0 rfl) ?_
  refine f_12_1 F w (a := 146) rfl tb_580 dX12_mark_1 ?_
  refine lv_iload_n hx hb dX12_mark_4 rfl (lv_at hl 1 rfl) ?_
  refine k_Si F w (As := [.ref (B + 147), .int (zI y)]) (rest := []) (q_X12_isSyllable_147 (t := y) ⟨by omega, by omega⟩  hI) gs_X12_94 hs_X12_isSyllable ⟨(Nat.le_of_ble_eq_true rfl), (Nat.le_of_ble_eq_true rfl)⟩ hl.1 rfl (Nat.le_of_ble_eq_true rfl) ⟨Nat.zero_le _, Nat.zero_le _⟩ dX12_mark_5 (fun r1 N2 H locs hp w => ?_)
  obtain ⟨z3, rfl, bz3, xz3, hMN2⟩ := hp
  rw [hMN2] at w
  refine z_if_eq (tgt := 41) hx hb (by omega) dX12_mark_8 (by decide) (fun c4 => ?_) (fun c4 => ?_)
  · refine lv_iconst (v := zI 0) hx hb dX12_mark_41 rfl ?_
    rw [hQ]
    exact e_z F w hr hlocks (nar_z (by omega)) ⟨_, rfl, ⟨by omega, by omega⟩, hI, hF⟩ dX12_mark_42
  · refine lv_aload_n hx hb dX12_mark_11 rfl (lv_at hl 0 rfl) ?_
    refine f_12_1 F w (a := 146) rfl tb_580 dX12_mark_12 ?_
    refine lv_bipush (v := zI 26) hx hb dX12_mark_15 (by decide) ?_
    refine g_iald F w (a := 147) rfl (j := 26) ⟨by decide, by decide⟩ (by omega) dX12_mark_17 ?_
    obtain ⟨z5, bz5, ez5⟩ := IvR.ld (k := 26) hI (show ivr 147 26 = (0, 4095) from rfl) (show 146 ≤ 147 ∧ 147 < 159 by decide)
    refine r_val ez5 ?_
    refine lv_iload_n hx hb dX12_mark_18 rfl (lv_at hl 1 rfl) ?_
    refine k_Si F w (As := [.int (zI z5), .int (zI y)]) (rest := []) (q_X12_isIn (x := z5) ⟨by omega, by omega⟩ (x1 := y) ⟨by omega, by omega⟩  hI) gs_X12_51 hs_X12_isIn ⟨(Nat.le_of_ble_eq_true rfl), (Nat.le_of_ble_eq_true rfl)⟩ hl.1 rfl (Nat.le_of_ble_eq_true rfl) ⟨Nat.zero_le _, Nat.zero_le _⟩ dX12_mark_19 (fun r6 N7 H locs hp w => ?_)
    obtain ⟨z8, rfl, bz8, hMN7⟩ := hp
    rw [hMN7] at w
    refine lv_iload_n hx hb dX12_mark_22 rfl (lv_at hl 2 rfl) ?_
    refine z_icmp_ne (tgt := 43) hx hb (by omega) (by omega) dX12_mark_23 (by decide) (fun c9 => ?_) (fun c9 => ?_)
    · refine lv_aload_n hx hb dX12_mark_43 rfl (lv_at hl 0 rfl) ?_
      obtain ⟨z10, bz10, ez10⟩ := IvR.ld (k := 20) hI (show ivr 146 20 = (0, 12) from rfl) (show 146 ≤ 146 ∧ 146 < 159 by decide)
      refine k_Vv F w (As := []) (rest := []) (a := 146) (kd_lt (a := 146) (show kd 146 = (12, 0, 0) from rfl) (by decide)) (sh_12 rfl _ _) rfl (q_X12_keeps (ac := z10) (ez10) ⟨by omega, by omega⟩  hI) gv_X12_242 hv_X12_keeps ⟨(Nat.le_of_ble_eq_true rfl), (Nat.le_of_ble_eq_true rfl)⟩ hl.1 rfl (Nat.le_of_ble_eq_true rfl) ⟨Nat.zero_le _, Nat.zero_le _⟩ dX12_mark_44 (fun N12 H locs hp w => ?_)
      obtain ⟨hIN12, hFN12⟩ := hp
      have hGN12 := Fr.tr hF hFN12 (S := (fun b9 k9 => (b9 = 146 ∧ k9 = 20) ∨ b9 = 155 ∨ (b9 = 147 ∧ 26 ≤ k9 ∧ k9 ≤ 26) ∨ (b9 = 147 ∧ 27 ≤ k9 ∧ k9 ≤ 27))) (fun b k h => by (try dsimp only at h ⊢); rcases h with ⟨rfl, rfl⟩ | rfl <;> first | decide | omega)
      have kn14 : N12.1 147 26 = zI z5 := (hFN12 147 26 (by first | decide | (dsimp only; first | done | decide | omega) | omega)).trans (ez5)
      refine lv_aload_n hx hb dX12_mark_47 rfl (lv_at hl 0 rfl) ?_
      refine lv_iload_n hx hb dX12_mark_48 rfl (lv_at hl 1 rfl) ?_
      refine lv_iload_n hx hb dX12_mark_49 rfl (lv_at hl 2 rfl) ?_
      refine lv_iload_n hx hb dX12_mark_50 rfl (lv_at hl 3 rfl) ?_
      refine k_Vv F w (As := [.int (zI y), .int (zI x), .int (zI x1)]) (rest := []) (a := 146) (kd_lt (a := 146) (show kd 146 = (12, 0, 0) from rfl) (by decide)) (sh_12 rfl _ _) rfl (q_X12_marks (y := y) ⟨by omega, by omega⟩ (x := x) ⟨by omega, by omega⟩ (x1 := x1) ⟨by omega, by omega⟩  hIN12) gv_X12_245 hv_X12_marks ⟨(Nat.le_of_ble_eq_true rfl), (Nat.le_of_ble_eq_true rfl)⟩ hl.1 rfl (Nat.le_of_ble_eq_true rfl) ⟨Nat.zero_le _, Nat.zero_le _⟩ dX12_mark_51 (fun N16 H locs hp w => ?_)
      obtain ⟨hIN16, hFN16⟩ := hp
      have hGN16 := Fr.tr hGN12 hFN16 (S := (fun b9 k9 => (b9 = 146 ∧ k9 = 20) ∨ b9 = 155 ∨ (b9 = 147 ∧ 26 ≤ k9 ∧ k9 ≤ 26) ∨ (b9 = 147 ∧ 27 ≤ k9 ∧ k9 ≤ 27))) (fun b k h => by (try dsimp only at h ⊢); rcases h with ⟨rfl, q1, q2⟩ | ⟨rfl, q1, q2⟩ <;> first | decide | omega)
      refine lv_iconst (v := zI 1) hx hb dX12_mark_54 rfl ?_
      rw [hQ]
      exact e_z F w hr hlocks (nar_z (by omega)) ⟨_, rfl, ⟨by omega, by omega⟩, hIN16, hGN16⟩ dX12_mark_55
    · refine lv_aload_n hx hb dX12_mark_26 rfl (lv_at hl 0 rfl) ?_
      refine f_12_1 F w (a := 146) rfl tb_580 dX12_mark_27 ?_
      refine lv_bipush (v := zI 27) hx hb dX12_mark_30 (by decide) ?_
      refine g_iald F w (a := 147) rfl (j := 27) ⟨by decide, by decide⟩ (by omega) dX12_mark_32 ?_
      obtain ⟨z18, bz18, ez18⟩ := IvR.ld (k := 27) hI (show ivr 147 27 = (0, 4095) from rfl) (show 146 ≤ 147 ∧ 147 < 159 by decide)
      refine r_val ez18 ?_
      refine lv_iload_n hx hb dX12_mark_33 rfl (lv_at hl 1 rfl) ?_
      refine k_Si F w (As := [.int (zI z18), .int (zI y)]) (rest := []) (q_X12_isIn (x := z18) ⟨by omega, by omega⟩ (x1 := y) ⟨by omega, by omega⟩  hI) gs_X12_51 hs_X12_isIn ⟨(Nat.le_of_ble_eq_true rfl), (Nat.le_of_ble_eq_true rfl)⟩ hl.1 rfl (Nat.le_of_ble_eq_true rfl) ⟨Nat.zero_le _, Nat.zero_le _⟩ dX12_mark_34 (fun r19 N20 H locs hp w => ?_)
      obtain ⟨z21, rfl, bz21, hMN20⟩ := hp
      rw [hMN20] at w
      refine lv_iload_n hx hb dX12_mark_37 rfl (lv_at hl 3 rfl) ?_
      refine z_icmp_ne (tgt := 43) hx hb (by omega) (by omega) dX12_mark_38 (by decide) (fun c22 => ?_) (fun c22 => ?_)
      · refine lv_aload_n hx hb dX12_mark_43 rfl (lv_at hl 0 rfl) ?_
        obtain ⟨z23, bz23, ez23⟩ := IvR.ld (k := 20) hI (show ivr 146 20 = (0, 12) from rfl) (show 146 ≤ 146 ∧ 146 < 159 by decide)
        refine k_Vv F w (As := []) (rest := []) (a := 146) (kd_lt (a := 146) (show kd 146 = (12, 0, 0) from rfl) (by decide)) (sh_12 rfl _ _) rfl (q_X12_keeps (ac := z23) (ez23) ⟨by omega, by omega⟩  hI) gv_X12_242 hv_X12_keeps ⟨(Nat.le_of_ble_eq_true rfl), (Nat.le_of_ble_eq_true rfl)⟩ hl.1 rfl (Nat.le_of_ble_eq_true rfl) ⟨Nat.zero_le _, Nat.zero_le _⟩ dX12_mark_44 (fun N25 H locs hp w => ?_)
        obtain ⟨hIN25, hFN25⟩ := hp
        have hGN25 := Fr.tr hF hFN25 (S := (fun b9 k9 => (b9 = 146 ∧ k9 = 20) ∨ b9 = 155 ∨ (b9 = 147 ∧ 26 ≤ k9 ∧ k9 ≤ 26) ∨ (b9 = 147 ∧ 27 ≤ k9 ∧ k9 ≤ 27))) (fun b k h => by (try dsimp only at h ⊢); rcases h with ⟨rfl, rfl⟩ | rfl <;> first | decide | omega)
        have kn27 : N25.1 147 26 = zI z5 := (hFN25 147 26 (by first | decide | (dsimp only; first | done | decide | omega) | omega)).trans (ez5)
        have kn28 : N25.1 147 27 = zI z18 := (hFN25 147 27 (by first | decide | (dsimp only; first | done | decide | omega) | omega)).trans (ez18)
        refine lv_aload_n hx hb dX12_mark_47 rfl (lv_at hl 0 rfl) ?_
        refine lv_iload_n hx hb dX12_mark_48 rfl (lv_at hl 1 rfl) ?_
        refine lv_iload_n hx hb dX12_mark_49 rfl (lv_at hl 2 rfl) ?_
        refine lv_iload_n hx hb dX12_mark_50 rfl (lv_at hl 3 rfl) ?_
        refine k_Vv F w (As := [.int (zI y), .int (zI x), .int (zI x1)]) (rest := []) (a := 146) (kd_lt (a := 146) (show kd 146 = (12, 0, 0) from rfl) (by decide)) (sh_12 rfl _ _) rfl (q_X12_marks (y := y) ⟨by omega, by omega⟩ (x := x) ⟨by omega, by omega⟩ (x1 := x1) ⟨by omega, by omega⟩  hIN25) gv_X12_245 hv_X12_marks ⟨(Nat.le_of_ble_eq_true rfl), (Nat.le_of_ble_eq_true rfl)⟩ hl.1 rfl (Nat.le_of_ble_eq_true rfl) ⟨Nat.zero_le _, Nat.zero_le _⟩ dX12_mark_51 (fun N30 H locs hp w => ?_)
        obtain ⟨hIN30, hFN30⟩ := hp
        have hGN30 := Fr.tr hGN25 hFN30 (S := (fun b9 k9 => (b9 = 146 ∧ k9 = 20) ∨ b9 = 155 ∨ (b9 = 147 ∧ 26 ≤ k9 ∧ k9 ≤ 26) ∨ (b9 = 147 ∧ 27 ≤ k9 ∧ k9 ≤ 27))) (fun b k h => by (try dsimp only at h ⊢); rcases h with ⟨rfl, q1, q2⟩ | ⟨rfl, q1, q2⟩ <;> first | decide | omega)
        refine lv_iconst (v := zI 1) hx hb dX12_mark_54 rfl ?_
        rw [hQ]
        exact e_z F w hr hlocks (nar_z (by omega)) ⟨_, rfl, ⟨by omega, by omega⟩, hIN30, hGN30⟩ dX12_mark_55
      · refine lv_iconst (v := zI 0) hx hb dX12_mark_41 rfl ?_
        rw [hQ]
        exact e_z F w hr hlocks (nar_z (by omega)) ⟨_, rfl, ⟨by omega, by omega⟩, hI, hF⟩ dX12_mark_42
theorem dX12_takes_0 : decode cX12_takes 0 = .ok (.iload_n 1, 1) := wdX12_takes_0
theorem dX12_takes_1 : decode cX12_takes 1 = .ok (.ifCond .le 18, 3) := wdX12_takes_1
theorem dX12_takes_19 : decode cX12_takes 19 = .ok (.iload_n 1, 1) := wdX12_takes_19
theorem dX12_takes_20 : decode cX12_takes 20 = .ok (.ireturn, 1) := wdX12_takes_20
theorem dX12_takes_4 : decode cX12_takes 4 = .ok (.aload_n 0, 1) := wdX12_takes_4
theorem dX12_takes_5 : decode cX12_takes 5 = .ok (.invokevirtual 242, 3) := wdX12_takes_5
theorem dX12_takes_8 : decode cX12_takes 8 = .ok (.aload_n 0, 1) := wdX12_takes_8
theorem dX12_takes_9 : decode cX12_takes 9 = .ok (.getfield 13, 3) := wdX12_takes_9
theorem dX12_takes_12 : decode cX12_takes 12 = .ok (.aload_n 0, 1) := wdX12_takes_12
theorem dX12_takes_13 : decode cX12_takes 13 = .ok (.getfield 17, 3) := wdX12_takes_13
theorem dX12_takes_16 : decode cX12_takes 16 = .ok (.invokestatic 162, 3) := wdX12_takes_16
set_option maxRecDepth 4000 in
theorem q_X12_takes {l : Launch} {D : va_G} {B : Nat} {cy : Nat → ClassId} {M : Mem} {x : Int} (hx : (-2147483648) ≤ x ∧ x ≤ 2147483647) (hI : IvR M) : Ci l D B cy yX12_takes cX12_takes 2 (some .int) 1 22 [.ref (B + 146), .int (zI x)] M (fun r M1 => ∃ z : Int, r = zI z ∧ ((-2147483648) ≤ z ∧ z ≤ 2147483647) ∧ IvR M1 ∧ Fr (fun b9 k9 => (b9 = 146 ∧ k9 = 20) ∨ b9 = 147 ∨ b9 = 155) M1 M) := by
  refine s_anyQ (by decide) (Nat.le_of_ble_eq_true rfl) ?_
  intro p e s m args below meth c ls Q F hr hlocks hQ w hl
  have F : CallFix p m c cX12_takes 2 s args TB RX12 := F
  have hx := F.1
  have hb := F.2.1
  have hl : lv_has ls 2 [(0, .ref (B + 146)), (1, .int (zI x))] := hl
  have hF : Fr (fun b9 k9 => (b9 = 146 ∧ k9 = 20) ∨ b9 = 147 ∨ b9 = 155) M M := Fr.rf
  refine lv_iload_n hx hb dX12_takes_0 rfl (lv_at hl 1 rfl) ?_
  refine z_if_le (tgt := 19) hx hb (by omega) dX12_takes_1 (by decide) (fun c1 => ?_) (fun c1 => ?_)
  · refine lv_iload_n hx hb dX12_takes_19 rfl (lv_at hl 1 rfl) ?_
    rw [hQ]
    exact e_i F w hr hlocks ⟨_, rfl, ⟨by omega, by omega⟩, hI, hF⟩ dX12_takes_20
  · refine lv_aload_n hx hb dX12_takes_4 rfl (lv_at hl 0 rfl) ?_
    obtain ⟨z2, bz2, ez2⟩ := IvR.ld (k := 20) hI (show ivr 146 20 = (0, 12) from rfl) (show 146 ≤ 146 ∧ 146 < 159 by decide)
    refine k_Vv F w (As := []) (rest := []) (a := 146) (kd_lt (a := 146) (show kd 146 = (12, 0, 0) from rfl) (by decide)) (sh_12 rfl _ _) rfl (q_X12_keeps (ac := z2) (ez2) ⟨by omega, by omega⟩  hI) gv_X12_242 hv_X12_keeps ⟨(Nat.le_of_ble_eq_true rfl), (Nat.le_of_ble_eq_true rfl)⟩ hl.1 rfl (Nat.le_of_ble_eq_true rfl) ⟨Nat.zero_le _, Nat.zero_le _⟩ dX12_takes_5 (fun N4 H locs hp w => ?_)
    obtain ⟨hIN4, hFN4⟩ := hp
    have hGN4 := Fr.tr hF hFN4 (S := (fun b9 k9 => (b9 = 146 ∧ k9 = 20) ∨ b9 = 147 ∨ b9 = 155)) (fun b k h => by (try dsimp only at h ⊢); rcases h with ⟨rfl, rfl⟩ | rfl <;> first | decide | omega)
    refine lv_aload_n hx hb dX12_takes_8 rfl (lv_at hl 0 rfl) ?_
    refine f_12_1 F w (a := 146) rfl tb_580 dX12_takes_9 ?_
    refine lv_aload_n hx hb dX12_takes_12 rfl (lv_at hl 0 rfl) ?_
    refine f_12_2 F w (a := 146) rfl tb_45 dX12_takes_13 ?_
    obtain ⟨z6, bz6, ez6⟩ := IvR.ld (k := 0) hIN4 (show ivr 148 0 = (0, 12) from rfl) (show 146 ≤ 148 ∧ 148 < 159 by decide)
    refine k_Sv F w (As := [.ref (B + 147), .ref (B + 148)]) (rest := []) (q_copy_147_148 (nn := z6) (ez6) ⟨by omega, by omega⟩  hIN4) gs_X12_162 hs_X12_copy ⟨(Nat.le_of_ble_eq_true rfl), (Nat.le_of_ble_eq_true rfl)⟩ hl.1 rfl (Nat.le_of_ble_eq_true rfl) ⟨Nat.zero_le _, Nat.zero_le _⟩ dX12_takes_16 (fun N8 H locs hp w => ?_)
    obtain ⟨yN8_147_0, hIN8, hFN8⟩ := hp
    have hGN8 := Fr.tr hGN4 hFN8 (S := (fun b9 k9 => (b9 = 146 ∧ k9 = 20) ∨ b9 = 147 ∨ b9 = 155)) (fun b k h => by (try dsimp only at h ⊢); rcases h with rfl <;> first | decide | omega)
    have kn10 : N8.1 148 0 = zI z6 := (hFN8 148 0 (by first | decide | (dsimp only; first | done | decide | omega) | omega)).trans (ez6)
    refine lv_iload_n hx hb dX12_takes_19 rfl (lv_at hl 1 rfl) ?_
    rw [hQ]
    exact e_i F w hr hlocks ⟨_, rfl, ⟨by omega, by omega⟩, hIN8, hGN8⟩ dX12_takes_20
theorem dX12_does_0 : decode cX12_does 0 = .ok (.aload_n 0, 1) := wdX12_does_0
theorem dX12_does_1 : decode cX12_does 1 = .ok (.iload_n 1, 1) := wdX12_does_1
theorem dX12_does_2 : decode cX12_does 2 = .ok (.invokevirtual 249, 3) := wdX12_does_2
theorem dX12_does_5 : decode cX12_does 5 = .ok (.ifCond .ne 5, 3) := wdX12_does_5
theorem dX12_does_10 : decode cX12_does 10 = .ok (.aload_n 0, 1) := wdX12_does_10
theorem dX12_does_11 : decode cX12_does 11 = .ok (.getfield 17, 3) := wdX12_does_11
theorem dX12_does_14 : decode cX12_does 14 = .ok (.aload_n 0, 1) := wdX12_does_14
theorem dX12_does_15 : decode cX12_does 15 = .ok (.getfield 13, 3) := wdX12_does_15
theorem dX12_does_18 : decode cX12_does 18 = .ok (.invokestatic 162, 3) := wdX12_does_18
theorem dX12_does_21 : decode cX12_does 21 = .ok (.aload_n 0, 1) := wdX12_does_21
theorem dX12_does_22 : decode cX12_does 22 = .ok (.aload_n 0, 1) := wdX12_does_22
theorem dX12_does_23 : decode cX12_does 23 = .ok (.iload_n 1, 1) := wdX12_does_23
theorem dX12_does_24 : decode cX12_does 24 = .ok (.invokevirtual 166, 3) := wdX12_does_24
theorem dX12_does_27 : decode cX12_does 27 = .ok (.invokevirtual 252, 3) := wdX12_does_27
theorem tk_X12_takes : Cond.code yX12_takes cX12_takes 2 (some .int) ∈ TB := wtk_X12_takes
theorem gc_X12_takes : GoodIn TB (cw yX12_takes cX12_takes 2 (some .int)) := goodIn_c2 tk_X12_takes
theorem tb_686 : Cond.methodLink "ToneLinesModel" 252 yX12_takes ∈ TB := wtb_295
theorem tb_687 : Cond.instanceMethod yX12_takes ∈ TB := wtb_296
theorem tb_688 : Cond.selects "ToneLinesModel" yX12_takes yX12_takes ∈ TB := wtb_297
theorem gv_X12_252 : GoodIn TB (wsV RX12 252 RX12 yX12_takes (cw yX12_takes cX12_takes 2 (some .int))) := goodIn_4 tb_686 tb_687 tb_688 tb_38 gc_X12_takes
theorem hv_X12_takes : yX12_takes.cls = RX12 ∧ yX12_takes.cls ≠ "java/lang/invoke/MethodHandle" ∧ yX12_takes.cls ≠ "java/lang/invoke/VarHandle" ∧ (parseMethodDescriptor yX12_takes.desc).map (fun d => d.parameters.length) = some 1 := whv_X12_takes
theorem dX12_does_30 : decode cX12_does 30 = .ok (.ireturn, 1) := wdX12_does_30
theorem dX12_does_8 : decode cX12_does 8 = .ok (.iconst (-1), 1) := wdX12_does_8
theorem dX12_does_9 : decode cX12_does 9 = .ok (.ireturn, 1) := wdX12_does_9
set_option maxRecDepth 4000 in
theorem q_X12_does {l : Launch} {D : va_G} {B : Nat} {cy : Nat → ClassId} {M : Mem} {x : Int} (hx : (-2147483648) ≤ x ∧ x ≤ 2147483647) (hI : IvR M) : Ci l D B cy yX12_does cX12_does 2 (some .int) 8 189 [.ref (B + 146), .int (zI x)] M (fun r M1 => ∃ z : Int, r = zI z ∧ ((-2147483648) ≤ z ∧ z ≤ 2147483647) ∧ IvR M1 ∧ Fr (fun b9 k9 => (b9 = 146 ∧ k9 = 20) ∨ (b9 = 146 ∧ k9 = 3) ∨ (b9 = 146 ∧ k9 = 6) ∨ b9 = 147 ∨ b9 = 148 ∨ b9 = 155) M1 M) := by
  refine s_anyQ (by decide) (Nat.le_of_ble_eq_true rfl) ?_
  intro p e s m args below meth c ls Q F hr hlocks hQ w hl
  have F : CallFix p m c cX12_does 2 s args TB RX12 := F
  have hx := F.1
  have hb := F.2.1
  have hl : lv_has ls 2 [(0, .ref (B + 146)), (1, .int (zI x))] := hl
  have hF : Fr (fun b9 k9 => (b9 = 146 ∧ k9 = 20) ∨ (b9 = 146 ∧ k9 = 3) ∨ (b9 = 146 ∧ k9 = 6) ∨ b9 = 147 ∨ b9 = 148 ∨ b9 = 155) M M := Fr.rf
  refine lv_aload_n hx hb dX12_does_0 rfl (lv_at hl 0 rfl) ?_
  refine lv_iload_n hx hb dX12_does_1 rfl (lv_at hl 1 rfl) ?_
  refine k_Vi F w (As := [.int (zI x)]) (rest := []) (a := 146) (kd_lt (a := 146) (show kd 146 = (12, 0, 0) from rfl) (by decide)) (sh_12 rfl _ _) rfl (q_X12_isRule (x := x) ⟨by omega, by omega⟩  hI) gv_X12_249 hv_X12_isRule ⟨(Nat.le_of_ble_eq_true rfl), (Nat.le_of_ble_eq_true rfl)⟩ hl.1 rfl (Nat.le_of_ble_eq_true rfl) ⟨Nat.zero_le _, Nat.zero_le _⟩ dX12_does_2 (fun r1 N2 H locs hp w => ?_)
  obtain ⟨z3, rfl, bz3, xz3, hMN2⟩ := hp
  rw [hMN2] at w
  refine z_if_ne (tgt := 10) hx hb (by omega) dX12_does_5 (by decide) (fun c4 => ?_) (fun c4 => ?_)
  · refine lv_aload_n hx hb dX12_does_10 rfl (lv_at hl 0 rfl) ?_
    refine f_12_2 F w (a := 146) rfl tb_45 dX12_does_11 ?_
    refine lv_aload_n hx hb dX12_does_14 rfl (lv_at hl 0 rfl) ?_
    refine f_12_1 F w (a := 146) rfl tb_580 dX12_does_15 ?_
    obtain ⟨z5, bz5, ez5⟩ := IvR.ld (k := 0) hI (show ivr 147 0 = (0, 12) from rfl) (show 146 ≤ 147 ∧ 147 < 159 by decide)
    refine k_Sv F w (As := [.ref (B + 148), .ref (B + 147)]) (rest := []) (q_copy_148_147 (nn := z5) (ez5) ⟨by omega, by omega⟩  hI) gs_X12_162 hs_X12_copy ⟨(Nat.le_of_ble_eq_true rfl), (Nat.le_of_ble_eq_true rfl)⟩ hl.1 rfl (Nat.le_of_ble_eq_true rfl) ⟨Nat.zero_le _, Nat.zero_le _⟩ dX12_does_18 (fun N7 H locs hp w => ?_)
    obtain ⟨yN7_148_0, hIN7, hFN7⟩ := hp
    have hGN7 := Fr.tr hF hFN7 (S := (fun b9 k9 => (b9 = 146 ∧ k9 = 20) ∨ (b9 = 146 ∧ k9 = 3) ∨ (b9 = 146 ∧ k9 = 6) ∨ b9 = 147 ∨ b9 = 148 ∨ b9 = 155)) (fun b k h => by (try dsimp only at h ⊢); rcases h with rfl <;> first | decide | omega)
    have kn9 : N7.1 147 0 = zI z5 := (hFN7 147 0 (by first | decide | (dsimp only; first | done | decide | omega) | omega)).trans (ez5)
    refine lv_aload_n hx hb dX12_does_21 rfl (lv_at hl 0 rfl) ?_
    refine lv_aload_n hx hb dX12_does_22 rfl (lv_at hl 0 rfl) ?_
    refine lv_iload_n hx hb dX12_does_23 rfl (lv_at hl 1 rfl) ?_
    refine k_Vi F w (As := [.int (zI x)]) (rest := [.ref (B + 146)]) (a := 146) (kd_lt (a := 146) (show kd 146 = (12, 0, 0) from rfl) (by decide)) (sh_12 rfl _ _) rfl (q_X12_works (x := x) ⟨by omega, by omega⟩  hIN7) gv_X12_166 hv_X12_works ⟨(Nat.le_of_ble_eq_true rfl), (Nat.le_of_ble_eq_true rfl)⟩ hl.1 rfl (Nat.le_of_ble_eq_true rfl) ⟨Nat.zero_le _, Nat.zero_le _⟩ dX12_does_24 (fun r10 N11 H locs hp w => ?_)
    obtain ⟨z12, rfl, bz12, hIN11, hFN11⟩ := hp
    have hGN11 := Fr.tr hGN7 hFN11 (S := (fun b9 k9 => (b9 = 146 ∧ k9 = 20) ∨ (b9 = 146 ∧ k9 = 3) ∨ (b9 = 146 ∧ k9 = 6) ∨ b9 = 147 ∨ b9 = 148 ∨ b9 = 155)) (fun b k h => by (try dsimp only at h ⊢); rcases h with ⟨rfl, rfl⟩ | ⟨rfl, rfl⟩ | rfl <;> first | decide | omega)
    have kn13 : N11.1 147 0 = zI z5 := (hFN11 147 0 (by first | decide | (dsimp only; first | done | decide | omega) | omega)).trans (kn9)
    refine k_Vi F w (As := [.int (zI z12)]) (rest := []) (a := 146) (kd_lt (a := 146) (show kd 146 = (12, 0, 0) from rfl) (by decide)) (sh_12 rfl _ _) rfl (q_X12_takes (x := z12) ⟨by omega, by omega⟩  hIN11) gv_X12_252 hv_X12_takes ⟨(Nat.le_of_ble_eq_true rfl), (Nat.le_of_ble_eq_true rfl)⟩ hl.1 rfl (Nat.le_of_ble_eq_true rfl) ⟨Nat.zero_le _, Nat.zero_le _⟩ dX12_does_27 (fun r14 N15 H locs hp w => ?_)
    obtain ⟨z16, rfl, bz16, hIN15, hFN15⟩ := hp
    have hGN15 := Fr.tr hGN11 hFN15 (S := (fun b9 k9 => (b9 = 146 ∧ k9 = 20) ∨ (b9 = 146 ∧ k9 = 3) ∨ (b9 = 146 ∧ k9 = 6) ∨ b9 = 147 ∨ b9 = 148 ∨ b9 = 155)) (fun b k h => by (try dsimp only at h ⊢); rcases h with ⟨rfl, rfl⟩ | rfl | rfl <;> first | decide | omega)
    rw [hQ]
    exact e_i F w hr hlocks ⟨_, rfl, ⟨by omega, by omega⟩, hIN15, hGN15⟩ dX12_does_30
  · refine lv_iconst (v := zI (-1)) hx hb dX12_does_8 rfl ?_
    rw [hQ]
    exact e_i F w hr hlocks ⟨_, rfl, ⟨by omega, by omega⟩, hI, hF⟩ dX12_does_9
theorem dX12_derive_0 : decode cX12_derive 0 = .ok (.iload_n 1, 1) := wdX12_derive_0
theorem dX12_derive_1 : decode cX12_derive 1 = .ok (.iconst 0, 1) := wdX12_derive_1
theorem dX12_derive_2 : decode cX12_derive 2 = .ok (.aload_n 0, 1) := wdX12_derive_2
theorem dX12_derive_3 : decode cX12_derive 3 = .ok (.getfield 239, 3) := wdX12_derive_3
theorem dX12_derive_6 : decode cX12_derive 6 = .ok (.invokestatic 55, 3) := wdX12_derive_6
theorem dX12_derive_9 : decode cX12_derive 9 = .ok (.ifCond .eq 15, 3) := wdX12_derive_9
theorem dX12_derive_24 : decode cX12_derive 24 = .ok (.iconst (-1), 1) := wdX12_derive_24
theorem dX12_derive_25 : decode cX12_derive 25 = .ok (.ireturn, 1) := wdX12_derive_25
theorem dX12_derive_12 : decode cX12_derive 12 = .ok (.aload_n 0, 1) := wdX12_derive_12
theorem dX12_derive_13 : decode cX12_derive 13 = .ok (.aload_n 0, 1) := wdX12_derive_13
theorem dX12_derive_14 : decode cX12_derive 14 = .ok (.iload_n 1, 1) := wdX12_derive_14
theorem dX12_derive_15 : decode cX12_derive 15 = .ok (.invokevirtual 255, 3) := wdX12_derive_15
theorem dX12_derive_18 : decode cX12_derive 18 = .ok (.invokevirtual 252, 3) := wdX12_derive_18
theorem dX12_derive_21 : decode cX12_derive 21 = .ok (.goto 4, 3) := wdX12_derive_21
set_option maxRecDepth 4000 in
theorem q_X12_derive {l : Launch} {D : va_G} {B : Nat} {cy : Nat → ClassId} {M : Mem} {x : Int} (hx : (-2147483648) ≤ x ∧ x ≤ 2147483647) (hI : IvR M) : Ci l D B cy yX12_derive cX12_derive 2 (some .int) 9 212 [.ref (B + 146), .int (zI x)] M (fun r M1 => ∃ z : Int, r = zI z ∧ ((-2147483648) ≤ z ∧ z ≤ 2147483647) ∧ IvR M1 ∧ Fr (fun b9 k9 => (b9 = 146 ∧ k9 = 20) ∨ (b9 = 146 ∧ k9 = 3) ∨ (b9 = 146 ∧ k9 = 6) ∨ b9 = 147 ∨ b9 = 148 ∨ b9 = 155) M1 M) := by
  refine s_anyQ (by decide) (Nat.le_of_ble_eq_true rfl) ?_
  intro p e s m args below meth c ls Q F hr hlocks hQ w hl
  have F : CallFix p m c cX12_derive 2 s args TB RX12 := F
  have hx := F.1
  have hb := F.2.1
  have hl : lv_has ls 2 [(0, .ref (B + 146)), (1, .int (zI x))] := hl
  have hF : Fr (fun b9 k9 => (b9 = 146 ∧ k9 = 20) ∨ (b9 = 146 ∧ k9 = 3) ∨ (b9 = 146 ∧ k9 = 6) ∨ b9 = 147 ∨ b9 = 148 ∨ b9 = 155) M M := Fr.rf
  refine lv_iload_n hx hb dX12_derive_0 rfl (lv_at hl 1 rfl) ?_
  refine lv_iconst (v := zI 0) hx hb dX12_derive_1 rfl ?_
  refine lv_aload_n hx hb dX12_derive_2 rfl (lv_at hl 0 rfl) ?_
  refine f_12_5 F w (a := 146) rfl tb_604 dX12_derive_3 ?_
  obtain ⟨z1, bz1, ez1⟩ := IvR.ld (k := 5) hI (show ivr 146 5 = (0, 8) from rfl) (show 146 ≤ 146 ∧ 146 < 159 by decide)
  refine r_val ez1 ?_
  refine k_Si F w (As := [.int (zI x), .int (zI 0), .int (zI z1)]) (rest := []) (q_X12_in (x := x) ⟨by omega, by omega⟩ (x1 := 0) ⟨by omega, by omega⟩ (x2 := z1) ⟨by omega, by omega⟩  hI) gs_X12_55 hs_X12_in ⟨(Nat.le_of_ble_eq_true rfl), (Nat.le_of_ble_eq_true rfl)⟩ hl.1 rfl (Nat.le_of_ble_eq_true rfl) ⟨Nat.zero_le _, Nat.zero_le _⟩ dX12_derive_6 (fun r2 N3 H locs hp w => ?_)
  obtain ⟨z4, rfl, bz4, xz4, hMN3⟩ := hp
  rw [hMN3] at w
  refine z_if_eq (tgt := 24) hx hb (by omega) dX12_derive_9 (by decide) (fun c5 => ?_) (fun c5 => ?_)
  · refine lv_iconst (v := zI (-1)) hx hb dX12_derive_24 rfl ?_
    rw [hQ]
    exact e_i F w hr hlocks ⟨_, rfl, ⟨by omega, by omega⟩, hI, hF⟩ dX12_derive_25
  · refine lv_aload_n hx hb dX12_derive_12 rfl (lv_at hl 0 rfl) ?_
    refine lv_aload_n hx hb dX12_derive_13 rfl (lv_at hl 0 rfl) ?_
    refine lv_iload_n hx hb dX12_derive_14 rfl (lv_at hl 1 rfl) ?_
    refine k_Vi F w (As := [.int (zI x)]) (rest := [.ref (B + 146)]) (a := 146) (kd_lt (a := 146) (show kd 146 = (12, 0, 0) from rfl) (by decide)) (sh_12 rfl _ _) rfl (q_X12_derives (x := x) ⟨by omega, by omega⟩  hI) gv_X12_255 hv_X12_derives ⟨(Nat.le_of_ble_eq_true rfl), (Nat.le_of_ble_eq_true rfl)⟩ hl.1 rfl (Nat.le_of_ble_eq_true rfl) ⟨Nat.zero_le _, Nat.zero_le _⟩ dX12_derive_15 (fun r6 N7 H locs hp w => ?_)
    obtain ⟨z8, rfl, bz8, hIN7, hFN7⟩ := hp
    have hGN7 := Fr.tr hF hFN7 (S := (fun b9 k9 => (b9 = 146 ∧ k9 = 20) ∨ (b9 = 146 ∧ k9 = 3) ∨ (b9 = 146 ∧ k9 = 6) ∨ b9 = 147 ∨ b9 = 148 ∨ b9 = 155)) (fun b k h => by (try dsimp only at h ⊢); rcases h with ⟨rfl, rfl⟩ | ⟨rfl, rfl⟩ | rfl <;> first | decide | omega)
    have kn9 : N7.1 146 5 = zI z1 := (hFN7 146 5 (by first | decide | (dsimp only; first | done | decide | omega) | omega)).trans (ez1)
    refine k_Vi F w (As := [.int (zI z8)]) (rest := []) (a := 146) (kd_lt (a := 146) (show kd 146 = (12, 0, 0) from rfl) (by decide)) (sh_12 rfl _ _) rfl (q_X12_takes (x := z8) ⟨by omega, by omega⟩  hIN7) gv_X12_252 hv_X12_takes ⟨(Nat.le_of_ble_eq_true rfl), (Nat.le_of_ble_eq_true rfl)⟩ hl.1 rfl (Nat.le_of_ble_eq_true rfl) ⟨Nat.zero_le _, Nat.zero_le _⟩ dX12_derive_18 (fun r10 N11 H locs hp w => ?_)
    obtain ⟨z12, rfl, bz12, hIN11, hFN11⟩ := hp
    have hGN11 := Fr.tr hGN7 hFN11 (S := (fun b9 k9 => (b9 = 146 ∧ k9 = 20) ∨ (b9 = 146 ∧ k9 = 3) ∨ (b9 = 146 ∧ k9 = 6) ∨ b9 = 147 ∨ b9 = 148 ∨ b9 = 155)) (fun b k h => by (try dsimp only at h ⊢); rcases h with ⟨rfl, rfl⟩ | rfl | rfl <;> first | decide | omega)
    have kn13 : N11.1 146 5 = zI z1 := (hFN11 146 5 (by first | decide | (dsimp only; first | done | decide | omega) | omega)).trans (kn9)
    refine lv_goto (tgt := 25) hx hb dX12_derive_21 (by decide) ?_
    rw [hQ]
    exact e_i F w hr hlocks ⟨_, rfl, ⟨by omega, by omega⟩, hIN11, hGN11⟩ dX12_derive_25
