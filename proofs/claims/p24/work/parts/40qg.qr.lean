theorem wdX12_done_0 : decode cX12_done 0 = .ok (.aload_n 0, 1) := dX12_done_0
theorem wdX12_done_1 : decode cX12_done 1 = .ok (.iload_n 1, 1) := dX12_done_1
theorem wdX12_done_2 : decode cX12_done 2 = .ok (.invokevirtual 249, 3) := dX12_done_2
theorem wdX12_done_5 : decode cX12_done 5 = .ok (.ifCond .eq 12, 3) := dX12_done_5
theorem wdX12_done_8 : decode cX12_done 8 = .ok (.iload_n 2, 1) := dX12_done_8
theorem wdX12_done_9 : decode cX12_done 9 = .ok (.iconst 0, 1) := dX12_done_9
theorem wdX12_done_10 : decode cX12_done 10 = .ok (.iconst 1, 1) := dX12_done_10
theorem wdX12_done_11 : decode cX12_done 11 = .ok (.invokestatic 55, 3) := dX12_done_11
theorem wdX12_done_14 : decode cX12_done 14 = .ok (.ifCond .ne 5, 3) := dX12_done_14
theorem wdX12_done_19 : decode cX12_done 19 = .ok (.aload_n 0, 1) := dX12_done_19
theorem wdX12_done_20 : decode cX12_done 20 = .ok (.iload_n 1, 1) := dX12_done_20
theorem wdX12_done_21 : decode cX12_done 21 = .ok (.invokevirtual 255, 3) := dX12_done_21
theorem wdX12_done_24 : decode cX12_done 24 = .ok (.pop, 1) := dX12_done_24
theorem wdX12_done_25 : decode cX12_done 25 = .ok (.aload_n 0, 1) := dX12_done_25
theorem wdX12_done_26 : decode cX12_done 26 = .ok (.iload_n 1, 1) := dX12_done_26
theorem wdX12_done_27 : decode cX12_done 27 = .ok (.invokevirtual 166, 3) := dX12_done_27
theorem wdX12_done_30 : decode cX12_done 30 = .ok (.istore_n 3, 1) := dX12_done_30
theorem wdX12_done_31 : decode cX12_done 31 = .ok (.iload_n 2, 1) := dX12_done_31
theorem wdX12_done_32 : decode cX12_done 32 = .ok (.ifCond .ne 7, 3) := dX12_done_32
theorem wdX12_done_39 : decode cX12_done 39 = .ok (.aload_n 0, 1) := dX12_done_39
theorem wdX12_done_40 : decode cX12_done 40 = .ok (.getfield 156, 3) := dX12_done_40
theorem wdX12_done_43 : decode cX12_done 43 = .ok (.ireturn, 1) := dX12_done_43
theorem wdX12_done_35 : decode cX12_done 35 = .ok (.iload_n 3, 1) := dX12_done_35
theorem wdX12_done_36 : decode cX12_done 36 = .ok (.goto 7, 3) := dX12_done_36
theorem wdX12_done_17 : decode cX12_done 17 = .ok (.iconst (-1), 1) := dX12_done_17
theorem wdX12_done_18 : decode cX12_done 18 = .ok (.ireturn, 1) := dX12_done_18
set_option maxRecDepth 4000 in
theorem k_done {l : Launch} {D : va_G} {B : Nat} {cy : Nat → ClassId} {M : Mem} {Ps : Nat → Nat → Int} {mr k q hv ed : Nat} {o : Wo} {Hs : Nat → Fw} (hS : MS M Ps mr (q, hv, ed, o) Hs k) {r9 w9 : Int} (hr9 : rg r9) (hw9 : rg w9) : Ci l D B cy yX12_done cX12_done 4 (some .int) 9 212 [.ref (B + 146), .int (zI r9), .int (zI w9)] M (fun r M1 => r = zI (dnA Ps mr r9 w9 (q, hv, ed, o))) := by
  refine s_any (by decide) (Nat.le_of_ble_eq_true rfl) ?_
  intro p e s m below meth c ls F hr hlocks w hl
  have F : CallFix p m c cX12_done 4 s _ TB RX12 := F
  have hx := F.1
  have hb := F.2.1
  have hl : lv_has ls 4 [(0, .ref (B + 146)), (1, .int (zI r9)), (2, .int (zI w9))] := hl
  have hm8 := hS.1.1
  have hk12 := hS.2.2.2.2.1
  have hC : TW M q hv ed o := hS.T
  have hW : isR M 147 o.1 q hv ed o.2.1 o.2.2 := hC.1
  have hwf := hC.wf
  have hKL := hwf.2.2.2.2
  have hn12 := hwf.1
  have hq12 := hwf.2.1
  have hhv := hwf.2.2.1
  have hed := hwf.2.2.2.1
  refine lv_aload_n hx hb wdX12_done_0 rfl (lv_at hl 0 rfl) ?_
  refine lv_iload_n hx hb wdX12_done_1 rfl (lv_at hl 1 rfl) ?_
  refine k_Vi F w (As := [.int (zI r9)]) (rest := []) (a := 146) (kd_lt (a := 146) (show kd 146 = (12, 0, 0) from rfl) (by decide)) (sh_12 rfl _ _) rfl (m_isRule hS (r9 := r9) (by omega)) wgv_X12_249 whv_X12_isRule ⟨(Nat.le_of_ble_eq_true rfl), (Nat.le_of_ble_eq_true rfl)⟩ hl.1 rfl (Nat.le_of_ble_eq_true rfl) ⟨Nat.zero_le _, Nat.zero_le _⟩ wdX12_done_2 (fun r Ma2 H locs hp w => ?_)
  rcases hp with ⟨⟨hb1, rfl⟩ | ⟨hb1, rfl⟩, hMe⟩
  · rw [hMe] at w
    refine z_if_eq (tgt := 17) hx hb (by omega) wdX12_done_5 (by decide) (fun c3 => False.elim (by omega)) (fun c3 => ?_)
    refine lv_iload_n hx hb wdX12_done_8 rfl (lv_at hl 2 rfl) ?_
    refine lv_iconst (v := zI 0) hx hb wdX12_done_9 rfl ?_
    refine lv_iconst (v := zI 1) hx hb wdX12_done_10 rfl ?_
    refine k_Si F w (As := [.int (zI w9), .int (zI 0), .int (zI 1)]) (rest := []) (s_X12_in (v := w9) (a := 0) (b := 1) (by omega) (by omega) (by omega)) wgs_X12_55 whs_X12_in ⟨(Nat.le_of_ble_eq_true rfl), (Nat.le_of_ble_eq_true rfl)⟩ hl.1 rfl (Nat.le_of_ble_eq_true rfl) ⟨Nat.zero_le _, Nat.zero_le _⟩ wdX12_done_11 (fun r Ma5 H locs hp w => ?_)
    rcases hp with ⟨⟨hb4, rfl⟩ | ⟨hb4, rfl⟩, hMe⟩
    · rw [hMe] at w
      refine z_if_ne (tgt := 19) hx hb (by omega) wdX12_done_14 (by decide) (fun c6 => ?_) (fun c6 => False.elim (by omega))
      obtain ⟨rn, rfl⟩ : ∃ n8 : Nat, r9 = (n8 : Int) := ⟨Int.toNat r9, by omega⟩
      refine lv_aload_n hx hb wdX12_done_19 rfl (lv_at hl 0 rfl) ?_
      refine lv_iload_n hx hb wdX12_done_20 rfl (lv_at hl 1 rfl) ?_
      refine k_Vi F w (As := [.int (zI (rn : Int))]) (rest := []) (a := 146) (kd_lt (a := 146) (show kd 146 = (12, 0, 0) from rfl) (by decide)) (sh_12 rfl _ _) rfl (s_X12_derives hC hS.1 (n9 := rn) (by omega)) wgv_X12_255 whv_X12_derives ⟨(Nat.le_of_ble_eq_true rfl), (Nat.le_of_ble_eq_true rfl)⟩ hl.1 rfl (Nat.le_of_ble_eq_true rfl) ⟨Nat.zero_le _, Nat.zero_le _⟩ wdX12_done_21 (fun r Ma7 H locs hp w => ?_)
      rcases hp with ⟨oT, dT, eT, rfl, ⟨zT, hRT⟩, hFT, hdT⟩
      have hGV := hS.1.fr (hFT.1 149 (by decide) (by decide))
      refine lv_pop hx hb wdX12_done_24 rfl ?_
      refine lv_aload_n hx hb wdX12_done_25 rfl (lv_at hl 0 rfl) ?_
      refine lv_iload_n hx hb wdX12_done_26 rfl (lv_at hl 1 rfl) ?_
      refine k_Vi F w (As := [.int (zI (rn : Int))]) (rest := []) (a := 146) (kd_lt (a := 146) (show kd 146 = (12, 0, 0) from rfl) (by decide)) (sh_12 rfl _ _) rfl (s_X12_works hRT (r := rn) (by omega) (hGV.2 rn (by omega)).1 (hGV.2 rn (by omega)).2) wgv_X12_166 whv_X12_works ⟨(Nat.le_of_ble_eq_true rfl), (Nat.le_of_ble_eq_true rfl)⟩ hl.1 rfl (Nat.le_of_ble_eq_true rfl) ⟨Nat.zero_le _, Nat.zero_le _⟩ wdX12_done_27 (fun r Ma8 H locs hp w => ?_)
      rcases hp with ⟨oU, dU, pU, eU, rfl, ⟨zU, hRU⟩, hFU, hpU, hdU, hp20⟩
      have e9 : pf9 Ps (q, hv, ed, o) rn = (oU, dU, pU) := by show pfF (Ps rn) q hv ed 20 (dvF Ps q hv ed rn o).1 = _; rw [eT]; exact eU
      refine lv_istore_n (lv' := [(3, .int (zI (dU : Int))), (0, .ref (B + 146)), (1, .int (zI (rn : Int))), (2, .int (zI w9))]) hx hb wdX12_done_30 rfl hl (by decide) rfl (fun ls hl => ?_)
      refine lv_iload_n hx hb wdX12_done_31 rfl (lv_at hl 3 rfl) ?_
      refine z_if_ne (tgt := 39) hx hb (by omega) wdX12_done_32 (by decide) (fun c9 => ?_) (fun c9 => ?_)
      · refine lv_aload_n hx hb wdX12_done_39 rfl (lv_at hl 1 rfl) ?_
        refine f_12_6 F w (a := 146) rfl wtb_175 wdX12_done_40 ?_
        refine r_val (v := (zI (pU : Int))) (hpU) ?_
        exact e_i F w hr hlocks (congrArg zI ((dnA_1 (by omega) (by omega)).trans (by rw [e9])).symm) wdX12_done_43
      · refine lv_iload_n hx hb wdX12_done_35 rfl (lv_at hl 0 rfl) ?_
        refine lv_goto (tgt := 43) hx hb wdX12_done_36 (by decide) ?_
        exact e_i F w hr hlocks (congrArg zI ((dnA_0 (by omega) (by omega)).trans (by rw [e9])).symm) wdX12_done_43
    · rw [hMe] at w
      refine z_if_ne (tgt := 19) hx hb (by omega) wdX12_done_14 (by decide) (fun c10 => False.elim (by omega)) (fun c10 => ?_)
      refine lv_iconst (v := zI (-1)) hx hb wdX12_done_17 rfl ?_
      exact e_i F w hr hlocks (congrArg zI (dnA_n (by omega)).symm) wdX12_done_18
  · rw [hMe] at w
    refine z_if_eq (tgt := 17) hx hb (by omega) wdX12_done_5 (by decide) (fun c11 => ?_) (fun c11 => False.elim (by omega))
    refine lv_iconst (v := zI (-1)) hx hb wdX12_done_17 rfl ?_
    exact e_i F w hr hlocks (congrArg zI (dnA_n (by omega)).symm) wdX12_done_18
