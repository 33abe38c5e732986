theorem wdX11_open_0 : decode cX11_open 0 = .ok (.aload_n 0, 1) := dX11_open_0
theorem wdX11_open_1 : decode cX11_open 1 = .ok (.getfield 35, 3) := dX11_open_1
theorem wdX11_open_4 : decode cX11_open 4 = .ok (.iload_n 1, 1) := dX11_open_4
theorem wdX11_open_5 : decode cX11_open 5 = .ok (.invokevirtual 193, 3) := dX11_open_5
theorem wdX11_open_8 : decode cX11_open 8 = .ok (.ifCond .ne 5, 3) := dX11_open_8
theorem wdX11_open_13 : decode cX11_open 13 = .ok (.aload_n 0, 1) := dX11_open_13
theorem wdX11_open_14 : decode cX11_open 14 = .ok (.getfield 35, 3) := dX11_open_14
theorem wdX11_open_17 : decode cX11_open 17 = .ok (.iload_n 1, 1) := dX11_open_17
theorem wdX11_open_18 : decode cX11_open 18 = .ok (.invokevirtual 196, 3) := dX11_open_18
theorem wdX11_open_21 : decode cX11_open 21 = .ok (.astore 4, 2) := dX11_open_21
theorem wdX11_open_23 : decode cX11_open 23 = .ok (.aload 4, 2) := dX11_open_23
theorem wdX11_open_25 : decode cX11_open 25 = .ok (.iload_n 2, 1) := dX11_open_25
theorem wdX11_open_26 : decode cX11_open 26 = .ok (.invokevirtual 141, 3) := dX11_open_26
theorem wdX11_open_29 : decode cX11_open 29 = .ok (.ifCond .eq 12, 3) := dX11_open_29
theorem wdX11_open_32 : decode cX11_open 32 = .ok (.aload 4, 2) := dX11_open_32
theorem wdX11_open_34 : decode cX11_open 34 = .ok (.iload_n 3, 1) := dX11_open_34
theorem wdX11_open_35 : decode cX11_open 35 = .ok (.invokevirtual 160, 3) := dX11_open_35
theorem wdX11_open_38 : decode cX11_open 38 = .ok (.ifCond .ne 5, 3) := dX11_open_38
theorem wdX11_open_43 : decode cX11_open 43 = .ok (.aload 4, 2) := dX11_open_43
theorem wdX11_open_45 : decode cX11_open 45 = .ok (.iload_n 2, 1) := dX11_open_45
theorem wdX11_open_46 : decode cX11_open 46 = .ok (.iload_n 3, 1) := dX11_open_46
theorem wdX11_open_47 : decode cX11_open 47 = .ok (.invokevirtual 119, 3) := dX11_open_47
theorem wdX11_open_50 : decode cX11_open 50 = .ok (.ifCond .eq 7, 3) := dX11_open_50
theorem wdX11_open_53 : decode cX11_open 53 = .ok (.iconst 1, 1) := dX11_open_53
theorem wdX11_open_54 : decode cX11_open 54 = .ok (.goto 4, 3) := dX11_open_54
theorem wdX11_open_58 : decode cX11_open 58 = .ok (.ireturn, 1) := dX11_open_58
theorem wdX11_open_57 : decode cX11_open 57 = .ok (.iconst 0, 1) := dX11_open_57
theorem wdX11_open_41 : decode cX11_open 41 = .ok (.iconst (-1), 1) := dX11_open_41
theorem wdX11_open_42 : decode cX11_open 42 = .ok (.ireturn, 1) := dX11_open_42
theorem wdX11_open_11 : decode cX11_open 11 = .ok (.iconst (-1), 1) := dX11_open_11
theorem wdX11_open_12 : decode cX11_open 12 = .ok (.ireturn, 1) := dX11_open_12
set_option maxRecDepth 4000 in
theorem h_open {l : Launch} {D : va_G} {B : Nat} {cy : Nat → ClassId} {M : Mem} {Ps : Nat → Nat → Int} {mr rd k q hv ed : Nat} {o : Wo} {Hs : Nat → Fw} (hS : CS M Ps mr (q, hv, ed, o) rd Hs k) {n9 t9 u9 : Int} (hn9 : rg n9) (ht9 : rg t9) (hu9 : rg u9) : Ci l D B cy yX11_open cX11_open 5 (some .int) 6 155 [.ref (B + 0), .int (zI n9), .int (zI t9), .int (zI u9)] M (fun r M1 => r = zI (ofA Ps mr (q, hv, ed, o) n9 (opnA t9 u9))) := by
  refine s_any (by decide) (Nat.le_of_ble_eq_true rfl) ?_
  intro p e s m below meth c ls F hr hlocks w hl
  have F : CallFix p m c cX11_open 5 s _ TB RX11 := F
  have hx := F.1
  have hb := F.2.1
  have hl : lv_has ls 5 [(0, .ref (B + 0)), (1, .int (zI n9)), (2, .int (zI t9)), (3, .int (zI u9))] := hl
  have hm8 := hS.1.2.1
  have hC : CW M 44 q hv ed o := hS.t
  have hW : isW M 44 o.1 q hv ed o.2.1 o.2.2 := hC.1
  have hwf := hC.wf
  have hKL := hwf.2.2.2.2
  have hn12 := hwf.1
  have hq12 := hwf.2.1
  have hhv := hwf.2.2.1
  have hed := hwf.2.2.2.1
  refine lv_aload_n hx hb wdX11_open_0 rfl (lv_at hl 0 rfl) ?_
  refine f_11_3 F w (a := 0) rfl wtb_207 wdX11_open_1 ?_
  refine lv_iload_n hx hb wdX11_open_4 rfl (lv_at hl 1 rfl) ?_
  refine k_Vi F w (As := [.int (zI n9)]) (rest := []) (a := 22) (kd_lt (a := 22) (show kd 22 = (0, 0, 0) from rfl) (by decide)) (sh_0 rfl _ _) rfl (g_covers hS (n9 := n9) (by omega)) wgv_X11_193 whv_X0_covers ⟨(Nat.le_of_ble_eq_true rfl), (Nat.le_of_ble_eq_true rfl)⟩ hl.1 rfl (Nat.le_of_ble_eq_true rfl) ⟨Nat.zero_le _, Nat.zero_le _⟩ wdX11_open_5 (fun r Ma2 H locs hp w => ?_)
  rcases hp with ⟨⟨hb1, rfl⟩ | ⟨hb1, rfl⟩, hMe⟩
  · rw [hMe] at w
    obtain ⟨nn, rfl⟩ : ∃ n8 : Nat, n9 = (n8 : Int) := ⟨Int.toNat n9, by omega⟩
    have hnn : nn ≤ mr := by omega
    refine z_if_ne (tgt := 13) hx hb (by omega) wdX11_open_8 (by decide) (fun c3 => ?_) (fun c3 => False.elim (by omega))
    refine lv_aload_n hx hb wdX11_open_13 rfl (lv_at hl 0 rfl) ?_
    refine f_11_3 F w (a := 0) rfl wtb_207 wdX11_open_14 ?_
    refine lv_iload_n hx hb wdX11_open_17 rfl (lv_at hl 1 rfl) ?_
    refine k_Vr F w (As := [.int (zI (nn : Int))]) (rest := []) (a := 22) (kd_lt (a := 22) (show kd 22 = (0, 0, 0) from rfl) (by decide)) (sh_0 rfl _ _) rfl (g_stageOf hS (n9 := nn) (by omega)) wgv_X11_196 whv_X0_stageOf ⟨(Nat.le_of_ble_eq_true rfl), (Nat.le_of_ble_eq_true rfl)⟩ hl.1 rfl (Nat.le_of_ble_eq_true rfl) ⟨Nat.zero_le _, Nat.zero_le _⟩ wdX11_open_18 (fun r Ma4 H locs hp w => ?_)
    rcases hp with ⟨rfl, rd1, hnr, _, hS1, _⟩
    have hC9 := hS1.2.1.2.2.1 nn (by omega)
    obtain ⟨o1, ho1⟩ : ∃ o1, o1 = sg9 Ps (q, hv, ed, o) nn := ⟨_, rfl⟩
    have hC1 : CW Ma4 (44 + 3 * nn) q hv ed o1 := by rw [ho1]; exact hC9
    have hW1 := hC1.1
    have hwf1 := hC1.wf
    have hKL1 := hwf1.2.2.2.2
    have hn1 := hwf1.1
    refine lv_astore (lv' := [(4, .ref (B + (44 + 3 * nn))), (0, .ref (B + 0)), (1, .int (zI (nn : Int))), (2, .int (zI t9)), (3, .int (zI u9))]) hx hb wdX11_open_21 hl (by decide) rfl (fun ls hl => ?_)
    refine lv_aload hx hb wdX11_open_23 (lv_at hl 0 rfl) ?_
    refine lv_iload_n hx hb wdX11_open_25 rfl (lv_at hl 3 rfl) ?_
    refine k_Vi F w (As := [.int (zI t9)]) (rest := []) (a := (44 + 3 * nn)) (kd_lt (a := (44 + 3 * nn)) (kd_sg (by omega)) (by decide)) (sh_9 (kd_sg (by omega)) _ _) rfl (s_X9_hasTone (a := 44 + 3 * nn) (kd_sg (by omega)) hW1 hwf1 (by omega)) wgv_X11_141 whv_X9_hasTone ⟨(Nat.le_of_ble_eq_true rfl), (Nat.le_of_ble_eq_true rfl)⟩ hl.1 rfl (Nat.le_of_ble_eq_true rfl) ⟨Nat.zero_le _, Nat.zero_le _⟩ wdX11_open_26 (fun r Ma5 H locs hp w => ?_)
    rcases hp with ⟨⟨tt, rfl, htt, rfl⟩ | ⟨ntt, rfl⟩, hMe⟩
    · rw [hMe] at w
      refine z_if_eq (tgt := 41) hx hb (by omega) wdX11_open_29 (by decide) (fun c6 => False.elim (by omega)) (fun c6 => ?_)
      refine lv_aload hx hb wdX11_open_32 (lv_at hl 0 rfl) ?_
      refine lv_iload_n hx hb wdX11_open_34 rfl (lv_at hl 4 rfl) ?_
      refine k_Vi F w (As := [.int (zI u9)]) (rest := []) (a := (44 + 3 * nn)) (kd_lt (a := (44 + 3 * nn)) (kd_sg (by omega)) (by decide)) (sh_9 (kd_sg (by omega)) _ _) rfl (s_X9_hasSyllable (a := 44 + 3 * nn) (kd_sg (by omega)) hW1 hwf1 (by omega)) wgv_X11_160 whv_X9_hasSyllable ⟨(Nat.le_of_ble_eq_true rfl), (Nat.le_of_ble_eq_true rfl)⟩ hl.1 rfl (Nat.le_of_ble_eq_true rfl) ⟨Nat.zero_le _, Nat.zero_le _⟩ wdX11_open_35 (fun r Ma7 H locs hp w => ?_)
      rcases hp with ⟨⟨uu, rfl, huu, rfl⟩ | ⟨nuu, rfl⟩, hMe⟩
      · rw [hMe] at w
        refine z_if_ne (tgt := 43) hx hb (by omega) wdX11_open_38 (by decide) (fun c8 => ?_) (fun c8 => False.elim (by omega))
        refine lv_aload hx hb wdX11_open_43 (lv_at hl 0 rfl) ?_
        refine lv_iload_n hx hb wdX11_open_45 rfl (lv_at hl 3 rfl) ?_
        refine lv_iload_n hx hb wdX11_open_46 rfl (lv_at hl 4 rfl) ?_
        refine k_Vi F w (As := [.int (zI (tt : Int)), .int (zI (uu : Int))]) (rest := []) (a := (44 + 3 * nn)) (kd_lt (a := (44 + 3 * nn)) (kd_sg (by omega)) (by decide)) (sh_9 (kd_sg (by omega)) _ _) rfl (s_X9_isOpen (a := 44 + 3 * nn) (kd_sg (by omega)) hW1 hwf1 (t := (tt : Int)) (y := (uu : Int)) (by omega) (by omega)) wgv_X11_119 whv_X9_isOpen ⟨(Nat.le_of_ble_eq_true rfl), (Nat.le_of_ble_eq_true rfl)⟩ hl.1 rfl (Nat.le_of_ble_eq_true rfl) ⟨Nat.zero_le _, Nat.zero_le _⟩ wdX11_open_47 (fun r Ma9 H locs hp w => ?_)
        rcases hp with ⟨⟨⟨k8, j8, e8, f8, _, _, ho8⟩, rfl⟩ | ⟨ho8, rfl⟩, hMe⟩
        · obtain rfl : tt = k8 := by omega
          obtain rfl : uu = j8 := by omega
          rw [hMe] at w
          refine z_if_eq (tgt := 57) hx hb (by omega) wdX11_open_50 (by decide) (fun c10 => False.elim (by omega)) (fun c10 => ?_)
          refine lv_iconst (v := zI 1) hx hb wdX11_open_53 rfl ?_
          refine lv_goto (tgt := 58) hx hb wdX11_open_54 (by decide) ?_
          exact e_i F w hr hlocks (congrArg zI ((ofA_y hnn).trans (by rw [← ho1]; exact opnA_1 htt huu ho8)).symm) wdX11_open_58
        · replace ho8 : ¬ openP o1.1 o1.2.2 tt uu := fun h8 => ho8 ⟨tt, uu, rfl, rfl, htt, huu, h8⟩
          rw [hMe] at w
          refine z_if_eq (tgt := 57) hx hb (by omega) wdX11_open_50 (by decide) (fun c11 => ?_) (fun c11 => False.elim (by omega))
          refine lv_iconst (v := zI 0) hx hb wdX11_open_57 rfl ?_
          exact e_i F w hr hlocks (congrArg zI ((ofA_y hnn).trans (by rw [← ho1]; exact opnA_0 htt huu ho8)).symm) wdX11_open_58
      · rw [hMe] at w
        refine z_if_ne (tgt := 43) hx hb (by omega) wdX11_open_38 (by decide) (fun c12 => False.elim (by omega)) (fun c12 => ?_)
        refine lv_iconst (v := zI (-1)) hx hb wdX11_open_41 rfl ?_
        exact e_i F w hr hlocks (congrArg zI ((ofA_y hnn).trans (by rw [← ho1]; exact opnA_n (fun h9 => nuu h9.2.2))).symm) wdX11_open_42
    · rw [hMe] at w
      refine z_if_eq (tgt := 41) hx hb (by omega) wdX11_open_29 (by decide) (fun c13 => ?_) (fun c13 => False.elim (by omega))
      refine lv_iconst (v := zI (-1)) hx hb wdX11_open_41 rfl ?_
      exact e_i F w hr hlocks (congrArg zI ((ofA_y hnn).trans (by rw [← ho1]; exact opnA_n (fun h9 => ntt ⟨h9.1, h9.2.1⟩))).symm) wdX11_open_42
  · rw [hMe] at w
    refine z_if_ne (tgt := 13) hx hb (by omega) wdX11_open_8 (by decide) (fun c14 => False.elim (by omega)) (fun c14 => ?_)
    refine lv_iconst (v := zI (-1)) hx hb wdX11_open_11 rfl ?_
    exact e_i F w hr hlocks (congrArg zI (ofA_n hb1).symm) wdX11_open_12
