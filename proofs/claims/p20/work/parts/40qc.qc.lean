theorem wdX11_linesOf_0 : decode cX11_linesOf 0 = .ok (.aload_n 0, 1) := dX11_linesOf_0
theorem wdX11_linesOf_1 : decode cX11_linesOf 1 = .ok (.getfield 35, 3) := dX11_linesOf_1
theorem wdX11_linesOf_4 : decode cX11_linesOf 4 = .ok (.iload_n 1, 1) := dX11_linesOf_4
theorem wdX11_linesOf_5 : decode cX11_linesOf 5 = .ok (.invokevirtual 193, 3) := dX11_linesOf_5
theorem wdX11_linesOf_8 : decode cX11_linesOf 8 = .ok (.ifCond .ne 5, 3) := dX11_linesOf_8
theorem wdX11_linesOf_13 : decode cX11_linesOf 13 = .ok (.aload_n 0, 1) := dX11_linesOf_13
theorem wdX11_linesOf_14 : decode cX11_linesOf 14 = .ok (.getfield 35, 3) := dX11_linesOf_14
theorem wdX11_linesOf_17 : decode cX11_linesOf 17 = .ok (.iload_n 1, 1) := dX11_linesOf_17
theorem wdX11_linesOf_18 : decode cX11_linesOf 18 = .ok (.invokevirtual 196, 3) := dX11_linesOf_18
theorem wdX11_linesOf_21 : decode cX11_linesOf 21 = .ok (.astore_n 3, 1) := dX11_linesOf_21
theorem wdX11_linesOf_22 : decode cX11_linesOf 22 = .ok (.aload_n 3, 1) := dX11_linesOf_22
theorem wdX11_linesOf_23 : decode cX11_linesOf 23 = .ok (.iload_n 2, 1) := dX11_linesOf_23
theorem wdX11_linesOf_24 : decode cX11_linesOf 24 = .ok (.invokevirtual 141, 3) := dX11_linesOf_24
theorem wdX11_linesOf_27 : decode cX11_linesOf 27 = .ok (.ifCond .eq 12, 3) := dX11_linesOf_27
theorem wdX11_linesOf_30 : decode cX11_linesOf 30 = .ok (.aload_n 3, 1) := dX11_linesOf_30
theorem wdX11_linesOf_31 : decode cX11_linesOf 31 = .ok (.getfield 126, 3) := dX11_linesOf_31
theorem wdX11_linesOf_34 : decode cX11_linesOf 34 = .ok (.iload_n 2, 1) := dX11_linesOf_34
theorem wdX11_linesOf_35 : decode cX11_linesOf 35 = .ok (.iaload, 1) := dX11_linesOf_35
theorem wdX11_linesOf_36 : decode cX11_linesOf 36 = .ok (.goto 4, 3) := dX11_linesOf_36
theorem wdX11_linesOf_40 : decode cX11_linesOf 40 = .ok (.ireturn, 1) := dX11_linesOf_40
theorem wdX11_linesOf_39 : decode cX11_linesOf 39 = .ok (.iconst (-1), 1) := dX11_linesOf_39
theorem wdX11_linesOf_11 : decode cX11_linesOf 11 = .ok (.iconst (-1), 1) := dX11_linesOf_11
theorem wdX11_linesOf_12 : decode cX11_linesOf 12 = .ok (.ireturn, 1) := dX11_linesOf_12
set_option maxRecDepth 4000 in
theorem h_linesOf {l : Launch} {D : va_G} {B : Nat} {cy : Nat → ClassId} {M : Mem} {Ps : Nat → Nat → Int} {mr rd k q hv ed : Nat} {o : Wo} {Hs : Nat → Fw} (hS : CS M Ps mr (q, hv, ed, o) rd Hs k) {n9 t9 : Int} (hn9 : rg n9) (ht9 : rg t9) : Ci l D B cy yX11_linesOf cX11_linesOf 4 (some .int) 6 155 [.ref (B + 0), .int (zI n9), .int (zI t9)] M (fun r M1 => r = zI (ofA Ps mr (q, hv, ed, o) n9 (linA t9))) := by
  refine s_any (by decide) (Nat.le_of_ble_eq_true rfl) ?_
  intro p e s m below meth c ls F hr hlocks w hl
  have F : CallFix p m c cX11_linesOf 4 s _ TB RX11 := F
  have hx := F.1
  have hb := F.2.1
  have hl : lv_has ls 4 [(0, .ref (B + 0)), (1, .int (zI n9)), (2, .int (zI t9))] := hl
  have hm8 := hS.1.2.1
  have hC : CW M 44 q hv ed o := hS.t
  have hW : isW M 44 o.1 q hv ed o.2.1 o.2.2 := hC.1
  have hwf := hC.wf
  have hKL := hwf.2.2.2.2
  have hn12 := hwf.1
  have hq12 := hwf.2.1
  have hhv := hwf.2.2.1
  have hed := hwf.2.2.2.1
  refine lv_aload_n hx hb wdX11_linesOf_0 rfl (lv_at hl 0 rfl) ?_
  refine f_11_3 F w (a := 0) rfl wtb_207 wdX11_linesOf_1 ?_
  refine lv_iload_n hx hb wdX11_linesOf_4 rfl (lv_at hl 1 rfl) ?_
  refine k_Vi F w (As := [.int (zI n9)]) (rest := []) (a := 22) (kd_lt (a := 22) (show kd 22 = (0, 0, 0) from rfl) (by decide)) (sh_0 rfl _ _) rfl (g_covers hS (n9 := n9) (by omega)) wgv_X11_193 whv_X0_covers ⟨(Nat.le_of_ble_eq_true rfl), (Nat.le_of_ble_eq_true rfl)⟩ hl.1 rfl (Nat.le_of_ble_eq_true rfl) ⟨Nat.zero_le _, Nat.zero_le _⟩ wdX11_linesOf_5 (fun r Ma2 H locs hp w => ?_)
  rcases hp with ⟨⟨hb1, rfl⟩ | ⟨hb1, rfl⟩, hMe⟩
  · rw [hMe] at w
    obtain ⟨nn, rfl⟩ : ∃ n8 : Nat, n9 = (n8 : Int) := ⟨Int.toNat n9, by omega⟩
    have hnn : nn ≤ mr := by omega
    refine z_if_ne (tgt := 13) hx hb (by omega) wdX11_linesOf_8 (by decide) (fun c3 => ?_) (fun c3 => False.elim (by omega))
    refine lv_aload_n hx hb wdX11_linesOf_13 rfl (lv_at hl 0 rfl) ?_
    refine f_11_3 F w (a := 0) rfl wtb_207 wdX11_linesOf_14 ?_
    refine lv_iload_n hx hb wdX11_linesOf_17 rfl (lv_at hl 1 rfl) ?_
    refine k_Vr F w (As := [.int (zI (nn : Int))]) (rest := []) (a := 22) (kd_lt (a := 22) (show kd 22 = (0, 0, 0) from rfl) (by decide)) (sh_0 rfl _ _) rfl (g_stageOf hS (n9 := nn) (by omega)) wgv_X11_196 whv_X0_stageOf ⟨(Nat.le_of_ble_eq_true rfl), (Nat.le_of_ble_eq_true rfl)⟩ hl.1 rfl (Nat.le_of_ble_eq_true rfl) ⟨Nat.zero_le _, Nat.zero_le _⟩ wdX11_linesOf_18 (fun r Ma4 H locs hp w => ?_)
    rcases hp with ⟨rfl, rd1, hnr, _, hS1, _⟩
    have hC9 := hS1.2.1.2.2.1 nn (by omega)
    obtain ⟨o1, ho1⟩ : ∃ o1, o1 = sg9 Ps (q, hv, ed, o) nn := ⟨_, rfl⟩
    have hC1 : CW Ma4 (44 + 3 * nn) q hv ed o1 := by rw [ho1]; exact hC9
    have hW1 := hC1.1
    have hwf1 := hC1.wf
    have hKL1 := hwf1.2.2.2.2
    have hn1 := hwf1.1
    refine lv_astore_n (lv' := [(3, .ref (B + (44 + 3 * nn))), (0, .ref (B + 0)), (1, .int (zI (nn : Int))), (2, .int (zI t9))]) hx hb wdX11_linesOf_21 rfl hl (by decide) rfl (fun ls hl => ?_)
    refine lv_aload_n hx hb wdX11_linesOf_22 rfl (lv_at hl 0 rfl) ?_
    refine lv_iload_n hx hb wdX11_linesOf_23 rfl (lv_at hl 3 rfl) ?_
    refine k_Vi F w (As := [.int (zI t9)]) (rest := []) (a := (44 + 3 * nn)) (kd_lt (a := (44 + 3 * nn)) (kd_sg (by omega)) (by decide)) (sh_9 (kd_sg (by omega)) _ _) rfl (s_X9_hasTone (a := 44 + 3 * nn) (kd_sg (by omega)) hW1 hwf1 (by omega)) wgv_X11_141 whv_X9_hasTone ⟨(Nat.le_of_ble_eq_true rfl), (Nat.le_of_ble_eq_true rfl)⟩ hl.1 rfl (Nat.le_of_ble_eq_true rfl) ⟨Nat.zero_le _, Nat.zero_le _⟩ wdX11_linesOf_24 (fun r Ma5 H locs hp w => ?_)
    rcases hp with ⟨⟨tt, rfl, htt, rfl⟩ | ⟨ntt, rfl⟩, hMe⟩
    · rw [hMe] at w
      refine z_if_eq (tgt := 39) hx hb (by omega) wdX11_linesOf_27 (by decide) (fun c6 => False.elim (by omega)) (fun c6 => ?_)
      refine lv_aload_n hx hb wdX11_linesOf_30 rfl (lv_at hl 0 rfl) ?_
      refine f_9_5 F w (a := (44 + 3 * nn)) (kd_sg (by omega)) wtb_230 wdX11_linesOf_31 ?_
      refine lv_iload_n hx hb wdX11_linesOf_34 rfl (lv_at hl 3 rfl) ?_
      refine g_iald F w (a := ((44 + 3 * nn) + 2)) (kd_w2 (kd_sg (by omega))) (j := tt) (ix_n (by omega)) (by omega) wdX11_linesOf_35 ?_
      have hL6 := (hKL1 tt (by omega)).2
      refine r_val (v := (zI (((o1.2.2 tt) : Nat) : Int))) (hW1.2.2.2.2.2 tt (by omega)) ?_
      refine lv_goto (tgt := 40) hx hb wdX11_linesOf_36 (by decide) ?_
      exact e_i F w hr hlocks (congrArg zI ((ofA_y hnn).trans (by rw [← ho1]; exact linA_y htt)).symm) wdX11_linesOf_40
    · rw [hMe] at w
      refine z_if_eq (tgt := 39) hx hb (by omega) wdX11_linesOf_27 (by decide) (fun c7 => ?_) (fun c7 => False.elim (by omega))
      refine lv_iconst (v := zI (-1)) hx hb wdX11_linesOf_39 rfl ?_
      exact e_i F w hr hlocks (congrArg zI ((ofA_y hnn).trans (by rw [← ho1]; exact linA_n ntt)).symm) wdX11_linesOf_40
  · rw [hMe] at w
    refine z_if_ne (tgt := 13) hx hb (by omega) wdX11_linesOf_8 (by decide) (fun c8 => False.elim (by omega)) (fun c8 => ?_)
    refine lv_iconst (v := zI (-1)) hx hb wdX11_linesOf_11 rfl ?_
    exact e_i F w hr hlocks (congrArg zI (ofA_n hb1).symm) wdX11_linesOf_12
