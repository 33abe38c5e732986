theorem wdX12_lays_0 : decode cX12_lays 0 = .ok (.iload_n 1, 1) := dX12_lays_0
theorem wdX12_lays_1 : decode cX12_lays 1 = .ok (.iconst 0, 1) := dX12_lays_1
theorem wdX12_lays_2 : decode cX12_lays 2 = .ok (.aload_n 0, 1) := dX12_lays_2
theorem wdX12_lays_3 : decode cX12_lays 3 = .ok (.getfield 239, 3) := dX12_lays_3
theorem wdX12_lays_6 : decode cX12_lays 6 = .ok (.invokestatic 55, 3) := dX12_lays_6
theorem wdX12_lays_9 : decode cX12_lays 9 = .ok (.ifCond .ne 5, 3) := dX12_lays_9
theorem wdX12_lays_14 : decode cX12_lays 14 = .ok (.aload_n 0, 1) := dX12_lays_14
theorem wdX12_lays_15 : decode cX12_lays 15 = .ok (.iload_n 1, 1) := dX12_lays_15
theorem wdX12_lays_16 : decode cX12_lays 16 = .ok (.invokevirtual 255, 3) := dX12_lays_16
theorem wdX12_lays_19 : decode cX12_lays 19 = .ok (.pop, 1) := dX12_lays_19
theorem wdX12_lays_20 : decode cX12_lays 20 = .ok (.iconst 1, 1) := dX12_lays_20
theorem wdX12_lays_21 : decode cX12_lays 21 = .ok (.ireturn, 1) := dX12_lays_21
theorem wdX12_lays_12 : decode cX12_lays 12 = .ok (.iconst 0, 1) := dX12_lays_12
theorem wdX12_lays_13 : decode cX12_lays 13 = .ok (.ireturn, 1) := dX12_lays_13
set_option maxRecDepth 4000 in
theorem m_lays {l : Launch} {D : va_G} {B : Nat} {cy : Nat → ClassId} {M : Mem} {Ps : Nat → Nat → Int} {mr k q hv ed : Nat} {o : Wo} {Hs : Nat → Fw} (hS : MS M Ps mr (q, hv, ed, o) Hs k) {n9 : Int} (hn9 : rg n9) : Ci l D B cy yX12_lays cX12_lays 2 (some .boolean) 9 212 [.ref (B + 146), .int (zI n9)] M (fun r M1 => (∃ nn : Nat, n9 = (nn : Int) ∧ nn ≤ mr ∧ r = zI 1 ∧ ∃ z, RW M1 q hv ed (sg9 Ps (q, hv, ed, o) nn) z) ∨ (¬ (0 ≤ n9 ∧ n9 ≤ (mr : Int)) ∧ r = zI 0)) := by
  refine s_any (by decide) (Nat.le_of_ble_eq_true rfl) ?_
  intro p e s m below meth c ls F hr hlocks w hl
  have F : CallFix p m c cX12_lays 2 s _ TB RX12 := F
  have hx := F.1
  have hb := F.2.1
  have hl : lv_has ls 2 [(0, .ref (B + 146)), (1, .int (zI n9))] := hl
  have hm8 := hS.1.1
  have hk12 := hS.2.2.2.2.1
  have hC : TW M q hv ed o := hS.T
  have hW : isR M 147 o.1 q hv ed o.2.1 o.2.2 := hC.1
  have hwf := hC.wf
  have hKL := hwf.2.2.2.2
  have hn12 := hwf.1
  have hq12 := hwf.2.1
  have hhv := hwf.2.2.1
  have hed := hwf.2.2.2.1
  refine lv_iload_n hx hb wdX12_lays_0 rfl (lv_at hl 1 rfl) ?_
  refine lv_iconst (v := zI 0) hx hb wdX12_lays_1 rfl ?_
  refine lv_aload_n hx hb wdX12_lays_2 rfl (lv_at hl 0 rfl) ?_
  refine f_12_5 F w (a := 146) rfl wtb_291 wdX12_lays_3 ?_
  refine r_val (v := (zI (mr : Int))) (hS.2.1) ?_
  refine k_Si F w (As := [.int (zI n9), .int (zI 0), .int (zI (mr : Int))]) (rest := []) (s_X12_in (v := n9) (a := 0) (b := (mr : Int)) (by omega) (by omega) (by omega)) wgs_X12_55 whs_X12_in ⟨(Nat.le_of_ble_eq_true rfl), (Nat.le_of_ble_eq_true rfl)⟩ hl.1 rfl (Nat.le_of_ble_eq_true rfl) ⟨Nat.zero_le _, Nat.zero_le _⟩ wdX12_lays_6 (fun r Ma2 H locs hp w => ?_)
  rcases hp with ⟨⟨hb1, rfl⟩ | ⟨hb1, rfl⟩, hMe⟩
  · rw [hMe] at w
    refine z_if_ne (tgt := 14) hx hb (by omega) wdX12_lays_9 (by decide) (fun c3 => ?_) (fun c3 => False.elim (by omega))
    obtain ⟨nn, rfl⟩ : ∃ n8 : Nat, n9 = (n8 : Int) := ⟨Int.toNat n9, by omega⟩
    refine lv_aload_n hx hb wdX12_lays_14 rfl (lv_at hl 0 rfl) ?_
    refine lv_iload_n hx hb wdX12_lays_15 rfl (lv_at hl 1 rfl) ?_
    refine k_Vi F w (As := [.int (zI (nn : Int))]) (rest := []) (a := 146) (kd_lt (a := 146) (show kd 146 = (12, 0, 0) from rfl) (by decide)) (sh_12 rfl _ _) rfl (s_X12_derives hC hS.1 (n9 := nn) (by omega)) wgv_X12_255 whv_X12_derives ⟨(Nat.le_of_ble_eq_true rfl), (Nat.le_of_ble_eq_true rfl)⟩ hl.1 rfl (Nat.le_of_ble_eq_true rfl) ⟨Nat.zero_le _, Nat.zero_le _⟩ wdX12_lays_16 (fun r Ma4 H locs hp w => ?_)
    rcases hp with ⟨oT, dT, eT, rfl, ⟨zT, hRT⟩, hFT, hdT⟩
    refine lv_pop hx hb wdX12_lays_19 rfl ?_
    refine lv_iconst (v := zI 1) hx hb wdX12_lays_20 rfl ?_
    exact e_z F w hr hlocks (nar_z (by omega)) (Or.inl ⟨nn, rfl, by omega, rfl, zT, by rw [show sg9 Ps (q, hv, ed, o) nn = oT from congrArg Prod.fst eT]; exact hRT⟩) wdX12_lays_21
  · rw [hMe] at w
    refine z_if_ne (tgt := 14) hx hb (by omega) wdX12_lays_9 (by decide) (fun c5 => False.elim (by omega)) (fun c5 => ?_)
    refine lv_iconst (v := zI 0) hx hb wdX12_lays_12 rfl ?_
    exact e_z F w hr hlocks (nar_z (by omega)) (Or.inr ⟨by omega, rfl⟩) wdX12_lays_13
theorem wtk_X12_lays : Cond.code yX12_lays cX12_lays 2 (some .boolean) ∈ TB := tk_X12_lays
theorem wgc_X12_lays : GoodIn TB (cw yX12_lays cX12_lays 2 (some .boolean)) := goodIn_c2 wtk_X12_lays
theorem wtb_337 : Cond.methodLink "ToneLinesModel" 261 yX12_lays ∈ TB := tb_611
theorem wtb_338 : Cond.instanceMethod yX12_lays ∈ TB := tb_612
theorem wtb_339 : Cond.selects "ToneLinesModel" yX12_lays yX12_lays ∈ TB := tb_613
theorem wgv_X12_261 : GoodIn TB (wsV RX12 261 RX12 yX12_lays (cw yX12_lays cX12_lays 2 (some .boolean))) := goodIn_4 wtb_337 wtb_338 wtb_339 wtb_105 wgc_X12_lays
theorem whv_X12_lays : yX12_lays.cls = RX12 ∧ yX12_lays.cls ≠ "java/lang/invoke/MethodHandle" ∧ yX12_lays.cls ≠ "java/lang/invoke/VarHandle" ∧ (parseMethodDescriptor yX12_lays.desc).map (fun d => d.parameters.length) = some 1 := hv_X12_lays
theorem wdX12_open_0 : decode cX12_open 0 = .ok (.aload_n 0, 1) := dX12_open_0
theorem wdX12_open_1 : decode cX12_open 1 = .ok (.iload_n 1, 1) := dX12_open_1
theorem wdX12_open_2 : decode cX12_open 2 = .ok (.invokevirtual 261, 3) := dX12_open_2
theorem wdX12_open_5 : decode cX12_open 5 = .ok (.ifCond .eq 25, 3) := dX12_open_5
theorem wdX12_open_8 : decode cX12_open 8 = .ok (.aload_n 0, 1) := dX12_open_8
theorem wdX12_open_9 : decode cX12_open 9 = .ok (.getfield 17, 3) := dX12_open_9
theorem wdX12_open_12 : decode cX12_open 12 = .ok (.iload_n 2, 1) := dX12_open_12
theorem wdX12_open_13 : decode cX12_open 13 = .ok (.invokestatic 105, 3) := dX12_open_13
theorem wdX12_open_16 : decode cX12_open 16 = .ok (.ifCond .eq 14, 3) := dX12_open_16
theorem wdX12_open_19 : decode cX12_open 19 = .ok (.aload_n 0, 1) := dX12_open_19
theorem wdX12_open_20 : decode cX12_open 20 = .ok (.getfield 17, 3) := dX12_open_20
theorem wdX12_open_23 : decode cX12_open 23 = .ok (.iload_n 3, 1) := dX12_open_23
theorem wdX12_open_24 : decode cX12_open 24 = .ok (.invokestatic 94, 3) := dX12_open_24
theorem wdX12_open_27 : decode cX12_open 27 = .ok (.ifCond .ne 5, 3) := dX12_open_27
theorem wdX12_open_32 : decode cX12_open 32 = .ok (.aload_n 0, 1) := dX12_open_32
theorem wdX12_open_33 : decode cX12_open 33 = .ok (.getfield 17, 3) := dX12_open_33
theorem wdX12_open_36 : decode cX12_open 36 = .ok (.iload_n 2, 1) := dX12_open_36
theorem wdX12_open_37 : decode cX12_open 37 = .ok (.iload_n 3, 1) := dX12_open_37
theorem wdX12_open_38 : decode cX12_open 38 = .ok (.invokestatic 86, 3) := dX12_open_38
theorem wdX12_open_41 : decode cX12_open 41 = .ok (.ifCond .eq 7, 3) := dX12_open_41
theorem wdX12_open_44 : decode cX12_open 44 = .ok (.iconst 1, 1) := dX12_open_44
theorem wdX12_open_45 : decode cX12_open 45 = .ok (.goto 4, 3) := dX12_open_45
theorem wdX12_open_49 : decode cX12_open 49 = .ok (.ireturn, 1) := dX12_open_49
theorem wdX12_open_48 : decode cX12_open 48 = .ok (.iconst 0, 1) := dX12_open_48
theorem wdX12_open_30 : decode cX12_open 30 = .ok (.iconst (-1), 1) := dX12_open_30
theorem wdX12_open_31 : decode cX12_open 31 = .ok (.ireturn, 1) := dX12_open_31
set_option maxRecDepth 4000 in
theorem k_open {l : Launch} {D : va_G} {B : Nat} {cy : Nat → ClassId} {M : Mem} {Ps : Nat → Nat → Int} {mr k q hv ed : Nat} {o : Wo} {Hs : Nat → Fw} (hS : MS M Ps mr (q, hv, ed, o) Hs k) {n9 t9 u9 : Int} (hn9 : rg n9) (ht9 : rg t9) (hu9 : rg u9) : Ci l D B cy yX12_open cX12_open 4 (some .int) 10 233 [.ref (B + 146), .int (zI n9), .int (zI t9), .int (zI u9)] M (fun r M1 => r = zI (ofA Ps mr (q, hv, ed, o) n9 (opnA t9 u9))) := by
  refine s_any (by decide) (Nat.le_of_ble_eq_true rfl) ?_
  intro p e s m below meth c ls F hr hlocks w hl
  have F : CallFix p m c cX12_open 4 s _ TB RX12 := F
  have hx := F.1
  have hb := F.2.1
  have hl : lv_has ls 4 [(0, .ref (B + 146)), (1, .int (zI n9)), (2, .int (zI t9)), (3, .int (zI u9))] := hl
  have hm8 := hS.1.1
  have hk12 := hS.2.2.2.2.1
  have hC : TW M q hv ed o := hS.T
  have hW : isR M 147 o.1 q hv ed o.2.1 o.2.2 := hC.1
  have hwf := hC.wf
  have hKL := hwf.2.2.2.2
  have hn12 := hwf.1
  have hq12 := hwf.2.1
  have hhv := hwf.2.2.1
  have hed := hwf.2.2.2.1
  refine lv_aload_n hx hb wdX12_open_0 rfl (lv_at hl 0 rfl) ?_
  refine lv_iload_n hx hb wdX12_open_1 rfl (lv_at hl 1 rfl) ?_
  refine k_Vi F w (As := [.int (zI n9)]) (rest := []) (a := 146) (kd_lt (a := 146) (show kd 146 = (12, 0, 0) from rfl) (by decide)) (sh_12 rfl _ _) rfl (m_lays hS (n9 := n9) (by omega)) wgv_X12_261 whv_X12_lays ⟨(Nat.le_of_ble_eq_true rfl), (Nat.le_of_ble_eq_true rfl)⟩ hl.1 rfl (Nat.le_of_ble_eq_true rfl) ⟨Nat.zero_le _, Nat.zero_le _⟩ wdX12_open_2 (fun r Ma1 H locs hp w => ?_)
  rcases hp with ⟨nn, rfl, hnn, rfl, z9, hRs⟩ | ⟨hnc, rfl⟩
  · obtain ⟨o1, ho1⟩ : ∃ o1, o1 = sg9 Ps (q, hv, ed, o) nn := ⟨_, rfl⟩
    have hR : RW Ma1 q hv ed o1 z9 := by rw [ho1]; exact hRs
    have hW1 := hR.1
    have hwf1 := hR.wf
    have hKL1 := hwf1.2.2.2.2
    have hn1 := hwf1.1
    have hc1 := hR.2.2.2.2
    refine z_if_eq (tgt := 30) hx hb (by omega) wdX12_open_5 (by decide) (fun c2 => False.elim (by omega)) (fun c2 => ?_)
    refine lv_aload_n hx hb wdX12_open_8 rfl (lv_at hl 0 rfl) ?_
    refine f_12_2 F w (a := 146) rfl wtb_102 wdX12_open_9 ?_
    refine lv_iload_n hx hb wdX12_open_12 rfl (lv_at hl 2 rfl) ?_
    refine k_Si F w (As := [.ref (B + 148), .int (zI t9)]) (rest := []) (s_X12_isTone (a := 148) rfl hW1 hwf1 (t := t9) (by omega)) wgs_X12_105 whs_X12_isTone ⟨(Nat.le_of_ble_eq_true rfl), (Nat.le_of_ble_eq_true rfl)⟩ hl.1 rfl (Nat.le_of_ble_eq_true rfl) ⟨Nat.zero_le _, Nat.zero_le _⟩ wdX12_open_13 (fun r Ma3 H locs hp w => ?_)
    rcases hp with ⟨⟨tt, rfl, htt, rfl⟩ | ⟨ntt, rfl⟩, hMe⟩
    · rw [hMe] at w
      refine z_if_eq (tgt := 30) hx hb (by omega) wdX12_open_16 (by decide) (fun c4 => False.elim (by omega)) (fun c4 => ?_)
      refine lv_aload_n hx hb wdX12_open_19 rfl (lv_at hl 0 rfl) ?_
      refine f_12_2 F w (a := 146) rfl wtb_102 wdX12_open_20 ?_
      refine lv_iload_n hx hb wdX12_open_23 rfl (lv_at hl 3 rfl) ?_
      refine k_Si F w (As := [.ref (B + 148), .int (zI u9)]) (rest := []) (s_X12_isSyllable (a := 148) rfl hW1 hwf1 (t := u9) (by omega)) wgs_X12_94 whs_X12_isSyllable ⟨(Nat.le_of_ble_eq_true rfl), (Nat.le_of_ble_eq_true rfl)⟩ hl.1 rfl (Nat.le_of_ble_eq_true rfl) ⟨Nat.zero_le _, Nat.zero_le _⟩ wdX12_open_24 (fun r Ma5 H locs hp w => ?_)
      rcases hp with ⟨⟨uu, rfl, huu, rfl⟩ | ⟨nuu, rfl⟩, hMe⟩
      · rw [hMe] at w
        refine z_if_ne (tgt := 32) hx hb (by omega) wdX12_open_27 (by decide) (fun c6 => ?_) (fun c6 => False.elim (by omega))
        refine lv_aload_n hx hb wdX12_open_32 rfl (lv_at hl 0 rfl) ?_
        refine f_12_2 F w (a := 146) rfl wtb_102 wdX12_open_33 ?_
        refine lv_iload_n hx hb wdX12_open_36 rfl (lv_at hl 2 rfl) ?_
        refine lv_iload_n hx hb wdX12_open_37 rfl (lv_at hl 3 rfl) ?_
        refine k_Si F w (As := [.ref (B + 148), .int (zI (tt : Int)), .int (zI (uu : Int))]) (rest := []) (s_X12_isOpen (a := 148) rfl hW1 hwf1 (t := tt) (j := uu) (by omega) (by omega)) wgs_X12_86 whs_X12_isOpen ⟨(Nat.le_of_ble_eq_true rfl), (Nat.le_of_ble_eq_true rfl)⟩ hl.1 rfl (Nat.le_of_ble_eq_true rfl) ⟨Nat.zero_le _, Nat.zero_le _⟩ wdX12_open_38 (fun r Ma7 H locs hp w => ?_)
        rcases hp with ⟨⟨ho8, rfl⟩ | ⟨ho8, rfl⟩, hMe⟩
        · rw [hMe] at w
          refine z_if_eq (tgt := 48) hx hb (by omega) wdX12_open_41 (by decide) (fun c8 => False.elim (by omega)) (fun c8 => ?_)
          refine lv_iconst (v := zI 1) hx hb wdX12_open_44 rfl ?_
          refine lv_goto (tgt := 49) hx hb wdX12_open_45 (by decide) ?_
          exact e_i F w hr hlocks (congrArg zI ((ofA_y hnn).trans (by rw [← ho1]; exact opnA_1 htt huu ho8)).symm) wdX12_open_49
        · rw [hMe] at w
          refine z_if_eq (tgt := 48) hx hb (by omega) wdX12_open_41 (by decide) (fun c9 => ?_) (fun c9 => False.elim (by omega))
          refine lv_iconst (v := zI 0) hx hb wdX12_open_48 rfl ?_
          exact e_i F w hr hlocks (congrArg zI ((ofA_y hnn).trans (by rw [← ho1]; exact opnA_0 htt huu ho8)).symm) wdX12_open_49
      · rw [hMe] at w
        refine z_if_ne (tgt := 32) hx hb (by omega) wdX12_open_27 (by decide) (fun c10 => False.elim (by omega)) (fun c10 => ?_)
        refine lv_iconst (v := zI (-1)) hx hb wdX12_open_30 rfl ?_
        exact e_i F w hr hlocks (congrArg zI ((ofA_y hnn).trans (by rw [← ho1]; exact opnA_n (fun h9 => nuu h9.2.2))).symm) wdX12_open_31
    · rw [hMe] at w
      refine z_if_eq (tgt := 30) hx hb (by omega) wdX12_open_16 (by decide) (fun c11 => ?_) (fun c11 => False.elim (by omega))
      refine lv_iconst (v := zI (-1)) hx hb wdX12_open_30 rfl ?_
      exact e_i F w hr hlocks (congrArg zI ((ofA_y hnn).trans (by rw [← ho1]; exact opnA_n (fun h9 => ntt ⟨h9.1, h9.2.1⟩))).symm) wdX12_open_31
  · refine z_if_eq (tgt := 30) hx hb (by omega) wdX12_open_5 (by decide) (fun c12 => ?_) (fun c12 => False.elim (by omega))
    refine lv_iconst (v := zI (-1)) hx hb wdX12_open_30 rfl ?_
    exact e_i F w hr hlocks (congrArg zI (ofA_n hnc).symm) wdX12_open_31
