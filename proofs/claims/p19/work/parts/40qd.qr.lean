theorem wdX12_orNeither_0 : decode cX12_orNeither 0 = .ok (.iload_n 0, 1) := dX12_orNeither_0
theorem wdX12_orNeither_1 : decode cX12_orNeither 1 = .ok (.iconst (-1), 1) := dX12_orNeither_1
theorem wdX12_orNeither_2 : decode cX12_orNeither 2 = .ok (.if_icmp .ne 8, 3) := dX12_orNeither_2
theorem wdX12_orNeither_10 : decode cX12_orNeither 10 = .ok (.iload_n 0, 1) := dX12_orNeither_10
theorem wdX12_orNeither_11 : decode cX12_orNeither 11 = .ok (.ireturn, 1) := dX12_orNeither_11
theorem wdX12_orNeither_5 : decode cX12_orNeither 5 = .ok (.bipush (-2), 2) := dX12_orNeither_5
theorem wdX12_orNeither_7 : decode cX12_orNeither 7 = .ok (.goto 4, 3) := dX12_orNeither_7
set_option maxRecDepth 4000 in
theorem k_orNeither {l : Launch} {D : va_G} {B : Nat} {cy : Nat → ClassId} {M : Mem} {x9 : Int} (hx9 : rg x9) : Ci l D B cy yX12_orNeither cX12_orNeither 1 (some .int) 0 0 [.int (zI x9)] M (fun r M1 => r = zI (orN x9) ∧ M1 = M) := by
  refine s_any (by decide) (Nat.le_of_ble_eq_true rfl) ?_
  intro p e s m below meth c ls F hr hlocks w hl
  have F : CallFix p m c cX12_orNeither 1 s _ TB RX12 := F
  have hx := F.1
  have hb := F.2.1
  have hl : lv_has ls 1 [(0, .int (zI x9))] := hl
  refine lv_iload_n hx hb wdX12_orNeither_0 rfl (lv_at hl 0 rfl) ?_
  refine lv_iconst (v := zI (-1)) hx hb wdX12_orNeither_1 rfl ?_
  refine z_icmp_ne (tgt := 10) hx hb (by omega) (by omega) wdX12_orNeither_2 (by decide) (fun c1 => ?_) (fun c1 => ?_)
  · refine lv_iload_n hx hb wdX12_orNeither_10 rfl (lv_at hl 0 rfl) ?_
    exact e_i F w hr hlocks ⟨congrArg zI (orN_n (by omega)).symm, rfl⟩ wdX12_orNeither_11
  · refine lv_bipush (v := zI (-2)) hx hb wdX12_orNeither_5 (by decide) ?_
    refine lv_goto (tgt := 11) hx hb wdX12_orNeither_7 (by decide) ?_
    exact e_i F w hr hlocks ⟨congrArg zI (orN_y (by omega)).symm, rfl⟩ wdX12_orNeither_11
