set_option maxRecDepth 4000 in
theorem x_X11_back {l : Launch} {D : va_G} {B : Nat} {cy : Nat → ClassId} {M : Mem} {x : Int} (hx : (-2147483648) ≤ x ∧ x ≤ 2147483647) {ts : Int} (hgts : M.1 1 1 = zI ts) (hts : 0 ≤ ts ∧ ts ≤ 300) (hI : Inv M) : Ci l D B cy yX11_back cX11_back 2 (some .int) 0 0 [.ref (B + 0), .int (zI x)] M (fun r M1 => ∃ z : Int, r = zI z ∧ ((-1) ≤ z ∧ z ≤ 300) ∧ (∃ ts2 : Int, M1.1 1 1 = zI ts2 ∧ ((0 ≤ ts2 ∧ ts2 ≤ 300) ∧ (((x < 0 ∨ ts < x) ∧ z = -1 ∧ ts2 = ts) ∨ (0 ≤ x ∧ x ≤ ts ∧ z = ts - x ∧ ts2 = ts - x)))) ∧ Inv M1 ∧ Fr (fun b9 k9 => (b9 = 1 ∧ k9 = 1)) M1 M) := by
  refine s_anyQ (by decide) (Nat.le_of_ble_eq_true rfl) ?_
  intro p e s m args below meth c ls Q F hr hlocks hQ w hl
  have F : CallFix p m c cX11_back 2 s args TB RX11 := F
  have hx := F.1
  have hb := F.2.1
  have hl : lv_has ls 2 [(0, .ref (B + 0)), (1, .int (zI x))] := hl
  have hF : Fr (fun b9 k9 => (b9 = 1 ∧ k9 = 1)) M M := Fr.rf
  refine lv_iload_n hx hb dX11_back_0 rfl (lv_at hl 1 rfl) ?_
  refine z_if_lt (tgt := 15) hx hb (by omega) dX11_back_1 (by decide) (fun c1 => ?_) (fun c1 => ?_)
  · refine lv_iconst (v := zI (-1)) hx hb dX11_back_15 rfl ?_
    rw [hQ]
    exact e_i F w hr hlocks ⟨_, rfl, (by omega), ⟨ts, (hgts), ⟨by omega, by omega⟩, (by omega)⟩, hI, hF⟩ dX11_back_16
  · refine lv_iload_n hx hb dX11_back_4 rfl (lv_at hl 1 rfl) ?_
    refine lv_aload_n hx hb dX11_back_5 rfl (lv_at hl 0 rfl) ?_
    refine f_11_0 F w (a := 0) rfl tb_292 dX11_back_6 ?_
    refine f_8_1 F w (a := 1) rfl tb_293 dX11_back_9 ?_
    refine r_val (v := zI ts) (hgts) ?_
    refine z_icmp_le (tgt := 17) hx hb (by omega) (by omega) dX11_back_12 (by decide) (fun c2 => ?_) (fun c2 => ?_)
    · refine lv_aload_n hx hb dX11_back_17 rfl (lv_at hl 0 rfl) ?_
      refine f_11_0 F w (a := 0) rfl tb_292 dX11_back_18 ?_
      refine lv_dup hx hb dX11_back_21 rfl ?_
      refine f_8_1 F w (a := 1) rfl tb_293 dX11_back_22 ?_
      refine r_val (v := zI ts) (hgts) ?_
      refine lv_iload_n hx hb dX11_back_25 rfl (lv_at hl 1 rfl) ?_
      refine z_isub (z := (ts - x)) hx hb dX11_back_26 (by omega) ?_
      refine u_8_1 F w (a := 1) rfl tb_293 dX11_back_27 (fun H locs w => ?_)
      refine lv_aload_n hx hb dX11_back_30 rfl (lv_at hl 0 rfl) ?_
      refine f_11_0 F w (a := 0) rfl tb_292 dX11_back_31 ?_
      refine f_8_1 F w (a := 1) rfl tb_293 dX11_back_34 ?_
      refine r_val (v := zI (ts - x)) (st_at) ?_
      rw [hQ]
      exact e_i F w hr hlocks ⟨_, rfl, (by omega), ⟨(ts - x), (st_at), ⟨by omega, by omega⟩, (by omega)⟩, (Inv.to hI (a := 1) (k := 1) (x := (ts - x)) (show iv 1 1 = (0, 300) from rfl) (by omega)), (Fr.to hF (by first | omega | (dsimp only; first | done | omega)))⟩ dX11_back_37
    · refine lv_iconst (v := zI (-1)) hx hb dX11_back_15 rfl ?_
      rw [hQ]
      exact e_i F w hr hlocks ⟨_, rfl, (by omega), ⟨ts, (hgts), ⟨by omega, by omega⟩, (by omega)⟩, hI, hF⟩ dX11_back_16
set_option maxRecDepth 4000 in
theorem x_X12_back {l : Launch} {D : va_G} {B : Nat} {cy : Nat → ClassId} {M : Mem} {x : Int} (hx : (-2147483648) ≤ x ∧ x ≤ 2147483647) {ts : Int} (hgts : M.1 146 8 = zI ts) (hts : 0 ≤ ts ∧ ts ≤ 300) (hI : IvR M) : Ci l D B cy yX12_back cX12_back 2 (some .int) 1 22 [.ref (B + 146), .int (zI x)] M (fun r M1 => ∃ z : Int, r = zI z ∧ ((-1) ≤ z ∧ z ≤ 300) ∧ (∃ ts2 : Int, M1.1 146 8 = zI ts2 ∧ ((0 ≤ ts2 ∧ ts2 ≤ 300) ∧ (((x < 0 ∨ ts < x) ∧ z = -1 ∧ ts2 = ts) ∨ (0 ≤ x ∧ x ≤ ts ∧ z = ts - x ∧ ts2 = ts - x)))) ∧ IvR M1 ∧ Fr (fun b9 k9 => (b9 = 146 ∧ k9 = 8)) M1 M) := by
  refine s_anyQ (by decide) (Nat.le_of_ble_eq_true rfl) ?_
  intro p e s m args below meth c ls Q F hr hlocks hQ w hl
  have F : CallFix p m c cX12_back 2 s args TB RX12 := F
  have hx := F.1
  have hb := F.2.1
  have hl : lv_has ls 2 [(0, .ref (B + 146)), (1, .int (zI x))] := hl
  have hF : Fr (fun b9 k9 => (b9 = 146 ∧ k9 = 8)) M M := Fr.rf
  refine lv_iload_n hx hb dX12_back_0 rfl (lv_at hl 1 rfl) ?_
  refine lv_iconst (v := zI 0) hx hb dX12_back_1 rfl ?_
  refine lv_aload_n hx hb dX12_back_2 rfl (lv_at hl 0 rfl) ?_
  refine f_12_8 F w (a := 146) rfl tb_587 dX12_back_3 ?_
  refine r_val (v := zI ts) (hgts) ?_
  refine k_Si F w (As := [.int (zI x), .int (zI 0), .int (zI ts)]) (rest := []) (q_X12_in (x := x) ⟨by omega, by omega⟩ (x1 := 0) ⟨by omega, by omega⟩ (x2 := ts) ⟨by omega, by omega⟩  hI) gs_X12_55 hs_X12_in ⟨(Nat.le_of_ble_eq_true rfl), (Nat.le_of_ble_eq_true rfl)⟩ hl.1 rfl (Nat.le_of_ble_eq_true rfl) ⟨Nat.zero_le _, Nat.zero_le _⟩ dX12_back_6 (fun r1 N2 H locs hp w => ?_)
  obtain ⟨z3, rfl, bz3, xz3, hMN2⟩ := hp
  rw [hMN2] at w
  refine z_if_ne (tgt := 14) hx hb (by omega) dX12_back_9 (by decide) (fun c4 => ?_) (fun c4 => ?_)
  · refine lv_aload_n hx hb dX12_back_14 rfl (lv_at hl 0 rfl) ?_
    refine lv_dup hx hb dX12_back_15 rfl ?_
    refine f_12_8 F w (a := 146) rfl tb_587 dX12_back_16 ?_
    refine r_val (v := zI ts) (hgts) ?_
    refine lv_iload_n hx hb dX12_back_19 rfl (lv_at hl 1 rfl) ?_
    obtain ⟨z5, bz5, x0z5, ez5⟩ := sub_ex ts x
    refine lv_isub hx hb dX12_back_20 ?_
    refine r_val ez5 ?_
    refine u_12_8 F w (a := 146) rfl tb_587 dX12_back_21 (fun H locs w => ?_)
    refine lv_aload_n hx hb dX12_back_24 rfl (lv_at hl 0 rfl) ?_
    refine f_12_8 F w (a := 146) rfl tb_587 dX12_back_25 ?_
    refine r_val (v := zI z5) (st_at) ?_
    rw [hQ]
    exact e_i F w hr hlocks ⟨_, rfl, ⟨by omega, by omega⟩, ⟨z5, (st_at), ⟨by omega, by omega⟩, (by omega)⟩, (IvR.to hI (a := 146) (k := 8) (x := z5) (show ivr 146 8 = (0, 300) from rfl) ⟨by omega, by omega⟩ ⟨by decide, by decide, by decide, fun q9 => absurd q9 (by decide)⟩), (Fr.to hF (by first | decide | (dsimp only; first | done | decide | omega) | omega))⟩ dX12_back_28
  · refine lv_iconst (v := zI (-1)) hx hb dX12_back_12 rfl ?_
    rw [hQ]
    exact e_i F w hr hlocks ⟨_, rfl, ⟨by omega, by omega⟩, ⟨ts, (hgts), ⟨by omega, by omega⟩, (by omega)⟩, hI, hF⟩ dX12_back_13
