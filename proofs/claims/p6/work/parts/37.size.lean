set_option maxRecDepth 4000 in
theorem x_X8_append {l : Launch} {D : va_G} {B : Nat} {cy : Nat → ClassId} {M : Mem} {x : Int} (hx : (-2147483648) ≤ x ∧ x ≤ 2147483647) {ts : Int} (hgts : M.1 1 1 = zI ts) (hts : 0 ≤ ts ∧ ts ≤ 300) (hpre0 : ts ≤ 296) (hI : Inv M) : Cv l D B cy yX8_append cX8_append 3 0 0 [.ref (B + 1), .int (zI x)] M (fun M1 => (∃ ts2 : Int, M1.1 1 1 = zI ts2 ∧ ((0 ≤ ts2 ∧ ts2 ≤ 300) ∧ ts2 = ts + 4)) ∧ Inv M1 ∧ Fr (fun b9 k9 => (b9 = 1 ∧ k9 = 1) ∨ b9 = 2) M1 M) := by
  refine s_anyQ (by decide) (Nat.le_of_ble_eq_true rfl) ?_
  intro p e s m args below meth c ls Q F hr hlocks hQ w hl
  have F : CallFix p m c cX8_append 3 s args TB RX8 := F
  have hx := F.1
  have hb := F.2.1
  have hl : lv_has ls 3 [(0, .ref (B + 1)), (1, .int (zI x))] := hl
  have hF : Fr (fun b9 k9 => (b9 = 1 ∧ k9 = 1) ∨ b9 = 2) M M := Fr.rf
  refine lv_bipush (v := zI 24) hx hb dX8_append_0 (by decide) ?_
  refine lv_istore_n (lv' := [(2, .int (zI 24)), (0, .ref (B + 1)), (1, .int (zI x))]) hx hb dX8_append_2 rfl hl (by decide) rfl (fun ls hl => ?_)
  have lp3 : ∀ (f : Nat) (v2_3 : Int) (g1_1_3 : Int) (NL3 : Mem), ((-8) ≤ v2_3 ∧ v2_3 ≤ 24) → (0 ≤ g1_1_3 ∧ g1_1_3 ≤ 300) → NL3.1 1 1 = zI g1_1_3 → (8 * (g1_1_3 - ts) = 24 - v2_3) → Inv NL3 → Fr (fun b9 k9 => (b9 = 1 ∧ k9 = 1) ∨ b9 = 2) NL3 M → (Int.toNat (v2_3 - (-8)) < f) → ∀ (H : Heap) (locs : List Loc) (ls : Array Slot), Wd D B cy s s.heap NL3 H locs → lv_has ls 3 [(2, .int (zI v2_3)), (0, .ref (B + 1)), (1, .int (zI x))] → W p l e (rmm 0 0) s m args below meth c H locs 0 0 Q (F0 m 3 ls []) := by
    intro f
    induction f with
    | zero => intros; omega
    | succ f ih3 =>
      intro v2_3 g1_1_3 NL3 iv2_3 ig1_1_3 eg1_1_3 y3_0 hIL3 hFL3 hf3 H locs ls w hl
      refine lv_iload_n hx hb dX8_append_3 rfl (lv_at hl 0 rfl) ?_
      refine z_if_lt (tgt := 46) hx hb (by omega) dX8_append_4 (by decide) (fun c1 => ?_) (fun c1 => ?_)
      · rw [hQ]
        exact e_v F w hr hlocks ⟨⟨g1_1_3, (eg1_1_3), ⟨by omega, by omega⟩, (by omega)⟩, hIL3, hFL3⟩ dX8_append_46
      · refine lv_aload_n hx hb dX8_append_7 rfl (lv_at hl 1 rfl) ?_
        refine f_8_1 F w (a := 1) rfl tb_271 dX8_append_8 ?_
        refine r_val (v := zI g1_1_3) (eg1_1_3) ?_
        refine lv_sipush (v := zI 300) hx hb dX8_append_11 (by decide) ?_
        refine z_icmp_ge (tgt := 46) hx hb (by omega) (by omega) dX8_append_14 (by decide) (fun c2 => ?_) (fun c2 => ?_)
        · rw [hQ]
          exact e_v F w hr hlocks ⟨⟨g1_1_3, (eg1_1_3), ⟨by omega, by omega⟩, (by omega)⟩, hIL3, hFL3⟩ dX8_append_46
        · refine lv_aload_n hx hb dX8_append_17 rfl (lv_at hl 1 rfl) ?_
          refine f_8_0 F w (a := 1) rfl tb_272 dX8_append_18 ?_
          refine lv_aload_n hx hb dX8_append_21 rfl (lv_at hl 1 rfl) ?_
          refine f_8_1 F w (a := 1) rfl tb_271 dX8_append_22 ?_
          refine r_val (v := zI g1_1_3) (eg1_1_3) ?_
          refine lv_iload_n hx hb dX8_append_25 rfl (lv_at hl 2 rfl) ?_
          refine lv_iload_n hx hb dX8_append_26 rfl (lv_at hl 0 rfl) ?_
          obtain ⟨z3, bz3, x0z3, ez3⟩ := shr_ex x v2_3 (by omega)
          refine lv_ishr hx hb dX8_append_27 ?_
          refine r_val ez3 ?_
          obtain ⟨z4, bz4, ez4⟩ := i2b_ex (zI z3)
          refine lv_i2b (v := zI z4) hx hb dX8_append_28 ez4 ?_
          refine g_bast F w (a := 2) rfl (j := (Int.toNat g1_1_3)) (ix_z (by omega) (by omega)) (by omega) dX8_append_29 (fun H locs w => ?_)
          rw [nar_b (z := z4) (by omega)] at w
          refine lv_aload_n hx hb dX8_append_30 rfl (lv_at hl 1 rfl) ?_
          refine lv_dup hx hb dX8_append_31 rfl ?_
          refine f_8_1 F w (a := 1) rfl tb_271 dX8_append_32 ?_
          refine r_val (v := zI g1_1_3) ((st_ne (Or.inl (by decide))).trans eg1_1_3) ?_
          refine lv_iconst (v := zI 1) hx hb dX8_append_35 rfl ?_
          refine z_iadd (z := (g1_1_3 + 1)) hx hb dX8_append_36 (by omega) ?_
          refine u_8_1 F w (a := 1) rfl tb_271 dX8_append_37 (fun H locs w => ?_)
          refine z_iinc (v := (v2_3 - 8)) (lv' := [(2, .int (zI (v2_3 - 8))), (0, .ref (B + 1)), (1, .int (zI x))]) hx hb dX8_append_40 hl (k := 0) rfl (by omega) (by decide) rfl (fun ls hl => ?_)
          refine lv_goto (tgt := 3) hx hb dX8_append_43 (by decide) ?_
          exact ih3 (v2_3 - 8) (g1_1_3 + 1) (st (st NL3 2 (Int.toNat g1_1_3) (zI z4)) 1 1 (zI (g1_1_3 + 1))) (by omega) (by omega) (st_at) (by omega) (Inv.to (Inv.to hIL3 (a := 2) (k := (Int.toNat g1_1_3)) (x := z4) (show iv 2 (Int.toNat g1_1_3) = ((-128), 127) from rfl) (by omega)) (a := 1) (k := 1) (x := (g1_1_3 + 1)) (show iv 1 1 = (0, 300) from rfl) (by omega)) (Fr.to (Fr.to hFL3 (by first | omega | (dsimp only; first | done | omega))) (by first | omega | (dsimp only; first | done | omega))) (by omega) _ _ _ w (lv_sub hl [0, 1, 2] rfl)
  exact lp3 _ 24 ts M (by omega) (by omega) (hgts) (by omega) hI hF (Nat.lt_succ_self _) _ _ _ w (lv_sub hl [0, 1, 2] rfl)
set_option maxRecDepth 4000 in
theorem x_X11_feed {l : Launch} {D : va_G} {B : Nat} {cy : Nat → ClassId} {M : Mem} {x : Int} (hx : (-2147483648) ≤ x ∧ x ≤ 2147483647) {x1 : Int} (hx1 : (-2147483648) ≤ x1 ∧ x1 ≤ 2147483647) {x2 : Int} (hx2 : (-2147483648) ≤ x2 ∧ x2 ≤ 2147483647) {x3 : Int} (hx3 : (-2147483648) ≤ x3 ∧ x3 ≤ 2147483647) {x4 : Int} (hx4 : (-2147483648) ≤ x4 ∧ x4 ≤ 2147483647) {ts : Int} (hgts : M.1 1 1 = zI ts) (hts : 0 ≤ ts ∧ ts ≤ 300) (hI : Inv M) : Ci l D B cy yX11_feed cX11_feed 6 (some .int) 1 22 [.ref (B + 0), .int (zI x), .int (zI x1), .int (zI x2), .int (zI x3), .int (zI x4)] M (fun r M1 => ∃ z : Int, r = zI z ∧ ((-1) ≤ z ∧ z ≤ 300) ∧ (∃ ts2 : Int, M1.1 1 1 = zI ts2 ∧ ((0 ≤ ts2 ∧ ts2 ≤ 300) ∧ ((280 < ts ∧ z = -1 ∧ ts2 = ts) ∨ (ts ≤ 280 ∧ z = ts + 20 ∧ ts2 = ts + 20)))) ∧ Inv M1 ∧ Fr (fun b9 k9 => (b9 = 1 ∧ k9 = 1) ∨ b9 = 2) M1 M) := by
  refine s_anyQ (by decide) (Nat.le_of_ble_eq_true rfl) ?_
  intro p e s m args below meth c ls Q F hr hlocks hQ w hl
  have F : CallFix p m c cX11_feed 6 s args TB RX11 := F
  have hx := F.1
  have hb := F.2.1
  have hl : lv_has ls 6 [(0, .ref (B + 0)), (1, .int (zI x)), (2, .int (zI x1)), (3, .int (zI x2)), (4, .int (zI x3)), (5, .int (zI x4))] := hl
  have hF : Fr (fun b9 k9 => (b9 = 1 ∧ k9 = 1) ∨ b9 = 2) M M := Fr.rf
  refine lv_aload_n hx hb dX11_feed_0 rfl (lv_at hl 0 rfl) ?_
  refine f_11_0 F w (a := 0) rfl tb_292 dX11_feed_1 ?_
  refine f_8_1 F w (a := 1) rfl tb_293 dX11_feed_4 ?_
  refine r_val (v := zI ts) (hgts) ?_
  refine lv_bipush (v := zI 20) hx hb dX11_feed_7 (by decide) ?_
  refine z_iadd (z := (ts + 20)) hx hb dX11_feed_9 (by omega) ?_
  refine lv_sipush (v := zI 300) hx hb dX11_feed_10 (by decide) ?_
  refine z_icmp_le (tgt := 18) hx hb (by omega) (by omega) dX11_feed_13 (by decide) (fun c1 => ?_) (fun c1 => ?_)
  · refine lv_aload_n hx hb dX11_feed_18 rfl (lv_at hl 0 rfl) ?_
    refine f_11_0 F w (a := 0) rfl tb_292 dX11_feed_19 ?_
    refine lv_iload_n hx hb dX11_feed_22 rfl (lv_at hl 1 rfl) ?_
    refine k_Vv F w (As := [.int (zI x)]) (rest := []) (a := 1) (kd_lt (a := 1) (show kd 1 = (8, 0, 0) from rfl) (by decide)) (sh_8 rfl _ _) rfl (x_X8_append (x := x) (by omega) (ts := ts) (hgts) (by omega) (by omega) hI) gv_X11_82 hv_X8_append ⟨(Nat.le_of_ble_eq_true rfl), (Nat.le_of_ble_eq_true rfl)⟩ hl.1 rfl (Nat.le_of_ble_eq_true rfl) ⟨Nat.zero_le _, Nat.zero_le _⟩ dX11_feed_23 (fun N3 H locs hp w => ?_)
    obtain ⟨⟨nz40, enz40, xz4⟩, hIN3, hFN3⟩ := hp
    have hGN3 := Fr.tr hF hFN3 (S := (fun b9 k9 => (b9 = 1 ∧ k9 = 1) ∨ b9 = 2)) (fun b k h => by first | omega | (dsimp only at h ⊢; omega))
    refine lv_aload_n hx hb dX11_feed_26 rfl (lv_at hl 0 rfl) ?_
    refine f_11_0 F w (a := 0) rfl tb_292 dX11_feed_27 ?_
    refine lv_iload_n hx hb dX11_feed_30 rfl (lv_at hl 2 rfl) ?_
    refine k_Vv F w (As := [.int (zI x1)]) (rest := []) (a := 1) (kd_lt (a := 1) (show kd 1 = (8, 0, 0) from rfl) (by decide)) (sh_8 rfl _ _) rfl (x_X8_append (x := x1) (by omega) (ts := nz40) (enz40) (by omega) (by omega) hIN3) gv_X11_82 hv_X8_append ⟨(Nat.le_of_ble_eq_true rfl), (Nat.le_of_ble_eq_true rfl)⟩ hl.1 rfl (Nat.le_of_ble_eq_true rfl) ⟨Nat.zero_le _, Nat.zero_le _⟩ dX11_feed_31 (fun N6 H locs hp w => ?_)
    obtain ⟨⟨nz70, enz70, xz7⟩, hIN6, hFN6⟩ := hp
    have hGN6 := Fr.tr hGN3 hFN6 (S := (fun b9 k9 => (b9 = 1 ∧ k9 = 1) ∨ b9 = 2)) (fun b k h => by first | omega | (dsimp only at h ⊢; omega))
    refine lv_aload_n hx hb dX11_feed_34 rfl (lv_at hl 0 rfl) ?_
    refine f_11_0 F w (a := 0) rfl tb_292 dX11_feed_35 ?_
    refine lv_iload_n hx hb dX11_feed_38 rfl (lv_at hl 3 rfl) ?_
    refine k_Vv F w (As := [.int (zI x2)]) (rest := []) (a := 1) (kd_lt (a := 1) (show kd 1 = (8, 0, 0) from rfl) (by decide)) (sh_8 rfl _ _) rfl (x_X8_append (x := x2) (by omega) (ts := nz70) (enz70) (by omega) (by omega) hIN6) gv_X11_82 hv_X8_append ⟨(Nat.le_of_ble_eq_true rfl), (Nat.le_of_ble_eq_true rfl)⟩ hl.1 rfl (Nat.le_of_ble_eq_true rfl) ⟨Nat.zero_le _, Nat.zero_le _⟩ dX11_feed_39 (fun N9 H locs hp w => ?_)
    obtain ⟨⟨nz100, enz100, xz10⟩, hIN9, hFN9⟩ := hp
    have hGN9 := Fr.tr hGN6 hFN9 (S := (fun b9 k9 => (b9 = 1 ∧ k9 = 1) ∨ b9 = 2)) (fun b k h => by first | omega | (dsimp only at h ⊢; omega))
    refine lv_aload_n hx hb dX11_feed_42 rfl (lv_at hl 0 rfl) ?_
    refine f_11_0 F w (a := 0) rfl tb_292 dX11_feed_43 ?_
    refine lv_iload hx hb dX11_feed_46 (lv_at hl 4 rfl) ?_
    refine k_Vv F w (As := [.int (zI x3)]) (rest := []) (a := 1) (kd_lt (a := 1) (show kd 1 = (8, 0, 0) from rfl) (by decide)) (sh_8 rfl _ _) rfl (x_X8_append (x := x3) (by omega) (ts := nz100) (enz100) (by omega) (by omega) hIN9) gv_X11_82 hv_X8_append ⟨(Nat.le_of_ble_eq_true rfl), (Nat.le_of_ble_eq_true rfl)⟩ hl.1 rfl (Nat.le_of_ble_eq_true rfl) ⟨Nat.zero_le _, Nat.zero_le _⟩ dX11_feed_48 (fun N12 H locs hp w => ?_)
    obtain ⟨⟨nz130, enz130, xz13⟩, hIN12, hFN12⟩ := hp
    have hGN12 := Fr.tr hGN9 hFN12 (S := (fun b9 k9 => (b9 = 1 ∧ k9 = 1) ∨ b9 = 2)) (fun b k h => by first | omega | (dsimp only at h ⊢; omega))
    refine lv_aload_n hx hb dX11_feed_51 rfl (lv_at hl 0 rfl) ?_
    refine f_11_0 F w (a := 0) rfl tb_292 dX11_feed_52 ?_
    refine lv_iload hx hb dX11_feed_55 (lv_at hl 5 rfl) ?_
    refine k_Vv F w (As := [.int (zI x4)]) (rest := []) (a := 1) (kd_lt (a := 1) (show kd 1 = (8, 0, 0) from rfl) (by decide)) (sh_8 rfl _ _) rfl (x_X8_append (x := x4) (by omega) (ts := nz130) (enz130) (by omega) (by omega) hIN12) gv_X11_82 hv_X8_append ⟨(Nat.le_of_ble_eq_true rfl), (Nat.le_of_ble_eq_true rfl)⟩ hl.1 rfl (Nat.le_of_ble_eq_true rfl) ⟨Nat.zero_le _, Nat.zero_le _⟩ dX11_feed_57 (fun N15 H locs hp w => ?_)
    obtain ⟨⟨nz160, enz160, xz16⟩, hIN15, hFN15⟩ := hp
    have hGN15 := Fr.tr hGN12 hFN15 (S := (fun b9 k9 => (b9 = 1 ∧ k9 = 1) ∨ b9 = 2)) (fun b k h => by first | omega | (dsimp only at h ⊢; omega))
    refine lv_aload_n hx hb dX11_feed_60 rfl (lv_at hl 0 rfl) ?_
    refine f_11_0 F w (a := 0) rfl tb_292 dX11_feed_61 ?_
    refine f_8_1 F w (a := 1) rfl tb_293 dX11_feed_64 ?_
    refine r_val (v := zI nz160) (enz160) ?_
    rw [hQ]
    exact e_i F w hr hlocks ⟨_, rfl, (by omega), ⟨nz160, (enz160), ⟨by omega, by omega⟩, (by omega)⟩, hIN15, hGN15⟩ dX11_feed_67
  · refine lv_iconst (v := zI (-1)) hx hb dX11_feed_16 rfl ?_
    rw [hQ]
    exact e_i F w hr hlocks ⟨_, rfl, (by omega), ⟨ts, (hgts), ⟨by omega, by omega⟩, (by omega)⟩, hI, hF⟩ dX11_feed_17
set_option maxRecDepth 4000 in
theorem x_X11_back {l : Launch} {D : va_G} {B : Nat} {cy : Nat → ClassId} {M : Mem} {x : Int} (hx : (-2147483648) ≤ x ∧ x ≤ 2147483647) {ts : Int} (hgts : M.1 1 1 = zI ts) (hts : 0 ≤ ts ∧ ts ≤ 300) (hI : Inv M) : Ci l D B cy yX11_back cX11_back 2 (some .int) 0 0 [.ref (B + 0), .int (zI x)] M (fun r M1 => ∃ z : Int, r = zI z ∧ ((-1) ≤ z ∧ z ≤ 300) ∧ (∃ ts2 : Int, M1.1 1 1 = zI ts2 ∧ ((0 ≤ ts2 ∧ ts2 ≤ 300) ∧ (((x < 0 ∨ ts < x) ∧ z = -1 ∧ ts2 = ts) ∨ (0 ≤ x ∧ x ≤ ts ∧ z = ts - x ∧ ts2 = ts - x)))) ∧ Inv M1 ∧ Fr (fun b9 k9 => (b9 = 1 ∧ k9 = 1)) M1 M) := by
  refine s_anyQ (by decide) (Nat.le_of_ble_eq_true rfl) ?_
  intro p e s m args below meth c ls Q F hr hlocks hQ w hl
  have F : CallFix p m c cX11_back 2 s args TB RX11 := F
  have hx := F.1
  have hb := F.2.1
  have hl : lv_has ls 2 [(0, .ref (B + 0)), (1, .int (zI x))] := hl
  have hF : Fr (fun b9 k9 => (b9 = 1 ∧ k9 = 1)) M M := Fr.rf
  refine lv_iload_n hx hb dX11_back_0 rfl (lv_at hl 1 rfl) ?_
  refine z_if_lt (tgt := 15) hx hb (by omega) dX11_back_1 (by decide) (fun c1 => ?_) (fun c1 => ?_)
  · refine lv_iconst (v := zI (-1)) hx hb dX11_back_15 rfl ?_
    rw [hQ]
    exact e_i F w hr hlocks ⟨_, rfl, (by omega), ⟨ts, (hgts), ⟨by omega, by omega⟩, (by omega)⟩, hI, hF⟩ dX11_back_16
  · refine lv_iload_n hx hb dX11_back_4 rfl (lv_at hl 1 rfl) ?_
    refine lv_aload_n hx hb dX11_back_5 rfl (lv_at hl 0 rfl) ?_
    refine f_11_0 F w (a := 0) rfl tb_292 dX11_back_6 ?_
    refine f_8_1 F w (a := 1) rfl tb_293 dX11_back_9 ?_
    refine r_val (v := zI ts) (hgts) ?_
    refine z_icmp_le (tgt := 17) hx hb (by omega) (by omega) dX11_back_12 (by decide) (fun c2 => ?_) (fun c2 => ?_)
    · refine lv_aload_n hx hb dX11_back_17 rfl (lv_at hl 0 rfl) ?_
      refine f_11_0 F w (a := 0) rfl tb_292 dX11_back_18 ?_
      refine lv_dup hx hb dX11_back_21 rfl ?_
      refine f_8_1 F w (a := 1) rfl tb_293 dX11_back_22 ?_
      refine r_val (v := zI ts) (hgts) ?_
      refine lv_iload_n hx hb dX11_back_25 rfl (lv_at hl 1 rfl) ?_
      refine z_isub (z := (ts - x)) hx hb dX11_back_26 (by omega) ?_
      refine u_8_1 F w (a := 1) rfl tb_293 dX11_back_27 (fun H locs w => ?_)
      refine lv_aload_n hx hb dX11_back_30 rfl (lv_at hl 0 rfl) ?_
      refine f_11_0 F w (a := 0) rfl tb_292 dX11_back_31 ?_
      refine f_8_1 F w (a := 1) rfl tb_293 dX11_back_34 ?_
      refine r_val (v := zI (ts - x)) (st_at) ?_
      rw [hQ]
      exact e_i F w hr hlocks ⟨_, rfl, (by omega), ⟨(ts - x), (st_at), ⟨by omega, by omega⟩, (by omega)⟩, (Inv.to hI (a := 1) (k := 1) (x := (ts - x)) (show iv 1 1 = (0, 300) from rfl) (by omega)), (Fr.to hF (by first | omega | (dsimp only; first | done | omega)))⟩ dX11_back_37
    · refine lv_iconst (v := zI (-1)) hx hb dX11_back_15 rfl ?_
      rw [hQ]
      exact e_i F w hr hlocks ⟨_, rfl, (by omega), ⟨ts, (hgts), ⟨by omega, by omega⟩, (by omega)⟩, hI, hF⟩ dX11_back_16
set_option maxRecDepth 4000 in
theorem x_X11_word {l : Launch} {D : va_G} {B : Nat} {cy : Nat → ClassId} {M : Mem} {ts : Int} (hgts : M.1 1 1 = zI ts) (hts : 0 ≤ ts ∧ ts ≤ 300) (hI : Inv M) : Ci l D B cy yX11_word cX11_word 2 (some .int) 6 136 [.ref (B + 0)] M (fun r M1 => ∃ z : Int, r = zI z ∧ ((-2147483648) ≤ z ∧ z ≤ 2147483647) ∧ (∃ ts2 : Int, M1.1 1 1 = zI ts2 ∧ ((0 ≤ ts2 ∧ ts2 ≤ 300) ∧ ts2 = 0)) ∧ Inv M1 ∧ Fr (fun b9 k9 => (b9 = 1 ∧ k9 = 1) ∨ (b9 = 109 ∧ k9 = 0) ∨ (b9 = 22 ∧ k9 = 7) ∨ (b9 = 3 ∧ k9 = 1) ∨ (b9 = 71 ∧ k9 = 2) ∨ b9 = 135 ∨ b9 = 143 ∨ b9 = 144 ∨ b9 = 145 ∨ b9 = 44 ∨ b9 = 45 ∨ b9 = 46) M1 M) := by
  refine s_anyQ (by decide) (Nat.le_of_ble_eq_true rfl) ?_
  intro p e s m args below meth c ls Q F hr hlocks hQ w hl
  have F : CallFix p m c cX11_word 2 s args TB RX11 := F
  have hx := F.1
  have hb := F.2.1
  have hl : lv_has ls 2 [(0, .ref (B + 0))] := hl
  have hF : Fr (fun b9 k9 => (b9 = 1 ∧ k9 = 1) ∨ (b9 = 109 ∧ k9 = 0) ∨ (b9 = 22 ∧ k9 = 7) ∨ (b9 = 3 ∧ k9 = 1) ∨ (b9 = 71 ∧ k9 = 2) ∨ b9 = 135 ∨ b9 = 143 ∨ b9 = 144 ∨ b9 = 145 ∨ b9 = 44 ∨ b9 = 45 ∨ b9 = 46) M M := Fr.rf
  refine lv_aload_n hx hb dX11_word_0 rfl (lv_at hl 0 rfl) ?_
  refine f_11_1 F w (a := 0) rfl tb_515 dX11_word_1 ?_
  refine lv_aload_n hx hb dX11_word_4 rfl (lv_at hl 0 rfl) ?_
  refine f_11_9 F w (a := 0) rfl tb_324 dX11_word_5 ?_
  refine k_Vi F w (As := [.ref (B + 143)]) (rest := []) (a := 3) (kd_lt (a := 3) (show kd 3 = (10, 0, 0) from rfl) (by decide)) (sh_10 rfl _ _) rfl (q_X10_faultOf (a := 143) rfl  hI) gv_X11_86 hv_X10_faultOf ⟨(Nat.le_of_ble_eq_true rfl), (Nat.le_of_ble_eq_true rfl)⟩ hl.1 rfl (Nat.le_of_ble_eq_true rfl) ⟨Nat.zero_le _, Nat.zero_le _⟩ dX11_word_8 (fun r1 N2 H locs hp w => ?_)
  obtain ⟨z3, rfl, bz3, hIN2, hFN2⟩ := hp
  have hGN2 := Fr.tr hF hFN2 (S := (fun b9 k9 => (b9 = 1 ∧ k9 = 1) ∨ (b9 = 109 ∧ k9 = 0) ∨ (b9 = 22 ∧ k9 = 7) ∨ (b9 = 3 ∧ k9 = 1) ∨ (b9 = 71 ∧ k9 = 2) ∨ b9 = 135 ∨ b9 = 143 ∨ b9 = 144 ∨ b9 = 145 ∨ b9 = 44 ∨ b9 = 45 ∨ b9 = 46)) (fun b k h => by first | omega | (dsimp only at h ⊢; omega))
  have kn4 : N2.1 1 1 = zI ts := (hFN2 1 1 (by first | omega | (dsimp only; omega))).trans (hgts)
  refine lv_istore_n (lv' := [(1, .int (zI z3)), (0, .ref (B + 0))]) hx hb dX11_word_11 rfl hl (by decide) rfl (fun ls hl => ?_)
  refine lv_aload_n hx hb dX11_word_12 rfl (lv_at hl 1 rfl) ?_
  refine f_11_0 F w (a := 0) rfl tb_292 dX11_word_13 ?_
  refine lv_iconst (v := zI 0) hx hb dX11_word_16 rfl ?_
  refine u_8_1 F w (a := 1) rfl tb_293 dX11_word_17 (fun H locs w => ?_)
  refine lv_iload_n hx hb dX11_word_20 rfl (lv_at hl 0 rfl) ?_
  refine lv_iconst (v := zI (-1)) hx hb dX11_word_21 rfl ?_
  refine z_icmp_eq (tgt := 30) hx hb (by omega) (by omega) dX11_word_22 (by decide) (fun c5 => ?_) (fun c5 => ?_)
  · refine lv_aload_n hx hb dX11_word_30 rfl (lv_at hl 1 rfl) ?_
    refine f_11_4 F w (a := 0) rfl tb_280 dX11_word_31 ?_
    refine lv_aload_n hx hb dX11_word_34 rfl (lv_at hl 1 rfl) ?_
    refine f_11_9 F w (a := 0) rfl tb_324 dX11_word_35 ?_
    refine k_Vv F w (As := [.ref (B + 143)]) (rest := []) (a := 44) (kd_lt (a := 44) (show kd 44 = (9, 0, 0) from rfl) (by decide)) (sh_9 rfl _ _) rfl (q_X9_copyFrom (a := 44) rfl (d := 143) rfl  (Inv.to hIN2 (a := 1) (k := 1) (x := 0) (show iv 1 1 = (0, 300) from rfl) (by omega))) gv_X11_90 hv_X9_copyFrom ⟨(Nat.le_of_ble_eq_true rfl), (Nat.le_of_ble_eq_true rfl)⟩ hl.1 rfl (Nat.le_of_ble_eq_true rfl) ⟨Nat.zero_le _, Nat.zero_le _⟩ dX11_word_38 (fun N7 H locs hp w => ?_)
    obtain ⟨hIN7, hFN7⟩ := hp
    have hGN7 := Fr.tr (Fr.to hGN2 (by first | omega | (dsimp only; first | done | omega))) hFN7 (S := (fun b9 k9 => (b9 = 1 ∧ k9 = 1) ∨ (b9 = 109 ∧ k9 = 0) ∨ (b9 = 22 ∧ k9 = 7) ∨ (b9 = 3 ∧ k9 = 1) ∨ (b9 = 71 ∧ k9 = 2) ∨ b9 = 135 ∨ b9 = 143 ∨ b9 = 144 ∨ b9 = 145 ∨ b9 = 44 ∨ b9 = 45 ∨ b9 = 46)) (fun b k h => by first | omega | (dsimp only at h ⊢; omega))
    have kn9 : N7.1 1 1 = zI 0 := (hFN7 1 1 (by first | omega | (dsimp only; omega))).trans (st_at)
    refine lv_aload_n hx hb dX11_word_41 rfl (lv_at hl 1 rfl) ?_
    refine f_11_5 F w (a := 0) rfl tb_279 dX11_word_42 ?_
    refine lv_iconst (v := zI 0) hx hb dX11_word_45 rfl ?_
    refine u_2_2 F w (a := 71) rfl tb_338 dX11_word_46 (fun H locs w => ?_)
    refine lv_aload_n hx hb dX11_word_49 rfl (lv_at hl 1 rfl) ?_
    refine k_Vv F w (As := []) (rest := []) (a := 0) (kd_lt (a := 0) (show kd 0 = (11, 0, 0) from rfl) (by decide)) (sh_11 rfl _ _) rfl (q_X11_outdate   (Inv.to hIN7 (a := 71) (k := 2) (x := 0) (show iv 71 2 = (0, 12) from rfl) (by omega))) gv_X11_97 hv_X11_outdate ⟨(Nat.le_of_ble_eq_true rfl), (Nat.le_of_ble_eq_true rfl)⟩ hl.1 rfl (Nat.le_of_ble_eq_true rfl) ⟨Nat.zero_le _, Nat.zero_le _⟩ dX11_word_50 (fun N11 H locs hp w => ?_)
    obtain ⟨hIN11, hFN11⟩ := hp
    have hGN11 := Fr.tr (Fr.to hGN7 (by first | omega | (dsimp only; first | done | omega))) hFN11 (S := (fun b9 k9 => (b9 = 1 ∧ k9 = 1) ∨ (b9 = 109 ∧ k9 = 0) ∨ (b9 = 22 ∧ k9 = 7) ∨ (b9 = 3 ∧ k9 = 1) ∨ (b9 = 71 ∧ k9 = 2) ∨ b9 = 135 ∨ b9 = 143 ∨ b9 = 144 ∨ b9 = 145 ∨ b9 = 44 ∨ b9 = 45 ∨ b9 = 46)) (fun b k h => by first | omega | (dsimp only at h ⊢; omega))
    have kn13 : N11.1 1 1 = zI 0 := (hFN11 1 1 (by first | omega | (dsimp only; omega))).trans ((st_ne (Or.inl (by decide))).trans kn9)
    have kn14 : N11.1 71 2 = zI 0 := (hFN11 71 2 (by first | omega | (dsimp only; omega))).trans (st_at)
    refine lv_aload_n hx hb dX11_word_53 rfl (lv_at hl 1 rfl) ?_
    refine f_11_4 F w (a := 0) rfl tb_280 dX11_word_54 ?_
    refine f_9_0 F w (a := 44) rfl tb_303 dX11_word_57 ?_
    obtain ⟨z15, bz15, ez15⟩ := Inv.ld (k := 0) hIN11 (show iv 44 0 = (0, 12) from rfl) (show 44 < 146 by decide)
    refine r_val ez15 ?_
    rw [hQ]
    exact e_i F w hr hlocks ⟨_, rfl, (by omega), ⟨0, (kn13), ⟨by omega, by omega⟩, (by omega)⟩, hIN11, hGN11⟩ dX11_word_60
  · refine lv_bipush (v := zI (-4)) hx hb dX11_word_25 (by decide) ?_
    refine lv_iload_n hx hb dX11_word_27 rfl (lv_at hl 0 rfl) ?_
    obtain ⟨z16, bz16, x0z16, ez16⟩ := sub_ex (-4) z3
    refine lv_isub hx hb dX11_word_28 ?_
    refine r_val ez16 ?_
    rw [hQ]
    exact e_i F w hr hlocks ⟨_, rfl, (by omega), ⟨0, (st_at), ⟨by omega, by omega⟩, (by omega)⟩, (Inv.to hIN2 (a := 1) (k := 1) (x := 0) (show iv 1 1 = (0, 300) from rfl) (by omega)), (Fr.to hGN2 (by first | omega | (dsimp only; first | done | omega)))⟩ dX11_word_29
set_option maxHeartbeats 4000000 in
set_option maxRecDepth 4000 in
theorem x_X11_rules {l : Launch} {D : va_G} {B : Nat} {cy : Nat → ClassId} {M : Mem} {ts : Int} (hgts : M.1 1 1 = zI ts) (hts : 0 ≤ ts ∧ ts ≤ 300) (hI : Inv M) : Ci l D B cy yX11_rules cX11_rules 2 (some .int) 9 197 [.ref (B + 0)] M (fun r M1 => ∃ z : Int, r = zI z ∧ ((-2147483648) ≤ z ∧ z ≤ 2147483647) ∧ (∃ ts2 : Int, M1.1 1 1 = zI ts2 ∧ ((0 ≤ ts2 ∧ ts2 ≤ 300) ∧ ts2 = 0)) ∧ Inv M1 ∧ Fr (fun b9 k9 => (b9 = 1 ∧ k9 = 1) ∨ (b9 = 109 ∧ k9 = 0) ∨ (b9 = 22 ∧ k9 = 2) ∨ (b9 = 22 ∧ k9 = 7) ∨ (b9 = 4 ∧ k9 = 2) ∨ (b9 = 4 ∧ k9 = 3) ∨ (b9 = 4 ∧ k9 = 4) ∨ (b9 = 4 ∧ k9 = 5) ∨ b9 = 135 ∨ (28 ≤ b9 ∧ b9 ≤ 43) ∨ (6 ≤ b9 ∧ b9 ≤ 21)) M1 M) := by
  refine s_anyQ (by decide) (Nat.le_of_ble_eq_true rfl) ?_
  intro p e s m args below meth c ls Q F hr hlocks hQ w hl
  have F : CallFix p m c cX11_rules 2 s args TB RX11 := F
  have hx := F.1
  have hb := F.2.1
  have hl : lv_has ls 2 [(0, .ref (B + 0))] := hl
  have hF : Fr (fun b9 k9 => (b9 = 1 ∧ k9 = 1) ∨ (b9 = 109 ∧ k9 = 0) ∨ (b9 = 22 ∧ k9 = 2) ∨ (b9 = 22 ∧ k9 = 7) ∨ (b9 = 4 ∧ k9 = 2) ∨ (b9 = 4 ∧ k9 = 3) ∨ (b9 = 4 ∧ k9 = 4) ∨ (b9 = 4 ∧ k9 = 5) ∨ b9 = 135 ∨ (28 ≤ b9 ∧ b9 ≤ 43) ∨ (6 ≤ b9 ∧ b9 ≤ 21)) M M := Fr.rf
  refine lv_aload_n hx hb dX11_rules_0 rfl (lv_at hl 0 rfl) ?_
  refine f_11_2 F w (a := 0) rfl tb_519 dX11_rules_1 ?_
  refine k_Vi F w (As := []) (rest := []) (a := 4) (kd_lt (a := 4) (show kd 4 = (5, 0, 0) from rfl) (by decide)) (sh_5 rfl _ _) rfl (q_X5_faultOfText   hI) gv_X11_103 hv_X5_faultOfText ⟨(Nat.le_of_ble_eq_true rfl), (Nat.le_of_ble_eq_true rfl)⟩ hl.1 rfl (Nat.le_of_ble_eq_true rfl) ⟨Nat.zero_le _, Nat.zero_le _⟩ dX11_rules_4 (fun r1 N2 H locs hp w => ?_)
  obtain ⟨z3, rfl, bz3, hIN2, hFN2⟩ := hp
  have hGN2 := Fr.tr hF hFN2 (S := (fun b9 k9 => (b9 = 1 ∧ k9 = 1) ∨ (b9 = 109 ∧ k9 = 0) ∨ (b9 = 22 ∧ k9 = 2) ∨ (b9 = 22 ∧ k9 = 7) ∨ (b9 = 4 ∧ k9 = 2) ∨ (b9 = 4 ∧ k9 = 3) ∨ (b9 = 4 ∧ k9 = 4) ∨ (b9 = 4 ∧ k9 = 5) ∨ b9 = 135 ∨ (28 ≤ b9 ∧ b9 ≤ 43) ∨ (6 ≤ b9 ∧ b9 ≤ 21))) (fun b k h => by first | omega | (dsimp only at h ⊢; omega))
  have kn4 : N2.1 1 1 = zI ts := (hFN2 1 1 (by first | omega | (dsimp only; omega))).trans (hgts)
  refine lv_istore_n (lv' := [(1, .int (zI z3)), (0, .ref (B + 0))]) hx hb dX11_rules_7 rfl hl (by decide) rfl (fun ls hl => ?_)
  refine lv_aload_n hx hb dX11_rules_8 rfl (lv_at hl 1 rfl) ?_
  refine f_11_0 F w (a := 0) rfl tb_292 dX11_rules_9 ?_
  refine lv_iconst (v := zI 0) hx hb dX11_rules_12 rfl ?_
  refine u_8_1 F w (a := 1) rfl tb_293 dX11_rules_13 (fun H locs w => ?_)
  refine lv_iload_n hx hb dX11_rules_16 rfl (lv_at hl 0 rfl) ?_
  refine lv_iconst (v := zI (-1)) hx hb dX11_rules_17 rfl ?_
  refine z_icmp_eq (tgt := 26) hx hb (by omega) (by omega) dX11_rules_18 (by decide) (fun c5 => ?_) (fun c5 => ?_)
  · refine lv_aload_n hx hb dX11_rules_26 rfl (lv_at hl 1 rfl) ?_
    refine f_11_3 F w (a := 0) rfl tb_273 dX11_rules_27 ?_
    refine lv_aload_n hx hb dX11_rules_30 rfl (lv_at hl 1 rfl) ?_
    refine f_11_2 F w (a := 0) rfl tb_519 dX11_rules_31 ?_
    refine f_5_1 F w (a := 4) rfl tb_523 dX11_rules_34 ?_
    refine lv_aload_n hx hb dX11_rules_37 rfl (lv_at hl 1 rfl) ?_
    refine f_11_2 F w (a := 0) rfl tb_519 dX11_rules_38 ?_
    refine f_5_2 F w (a := 4) rfl tb_524 dX11_rules_41 ?_
    obtain ⟨z6, bz6, ez6⟩ := Inv.ld (k := 2) (Inv.to hIN2 (a := 1) (k := 1) (x := 0) (show iv 1 1 = (0, 300) from rfl) (by omega)) (show iv 4 2 = (0, 8) from rfl) (show 4 < 146 by decide)
    refine r_val ez6 ?_
    refine k_Vv F w (As := [.ref (B + 5), .int (zI z6)]) (rest := []) (a := 22) (kd_lt (a := 22) (show kd 22 = (0, 0, 0) from rfl) (by decide)) (sh_0 rfl _ _) rfl (q_X0_takeRules (x := z6) (by omega)  (Inv.to hIN2 (a := 1) (k := 1) (x := 0) (show iv 1 1 = (0, 300) from rfl) (by omega))) gv_X11_114 hv_X0_takeRules ⟨(Nat.le_of_ble_eq_true rfl), (Nat.le_of_ble_eq_true rfl)⟩ hl.1 rfl (Nat.le_of_ble_eq_true rfl) ⟨Nat.zero_le _, Nat.zero_le _⟩ dX11_rules_44 (fun N8 H locs hp w => ?_)
    obtain ⟨hIN8, hFN8⟩ := hp
    have hGN8 := Fr.tr (Fr.to hGN2 (by first | omega | (dsimp only; first | done | omega))) hFN8 (S := (fun b9 k9 => (b9 = 1 ∧ k9 = 1) ∨ (b9 = 109 ∧ k9 = 0) ∨ (b9 = 22 ∧ k9 = 2) ∨ (b9 = 22 ∧ k9 = 7) ∨ (b9 = 4 ∧ k9 = 2) ∨ (b9 = 4 ∧ k9 = 3) ∨ (b9 = 4 ∧ k9 = 4) ∨ (b9 = 4 ∧ k9 = 5) ∨ b9 = 135 ∨ (28 ≤ b9 ∧ b9 ≤ 43) ∨ (6 ≤ b9 ∧ b9 ≤ 21))) (fun b k h => by first | omega | (dsimp only at h ⊢; omega))
    have kn10 : N8.1 1 1 = zI 0 := (hFN8 1 1 (by first | omega | (dsimp only; omega))).trans (st_at)
    refine lv_aload_n hx hb dX11_rules_47 rfl (lv_at hl 1 rfl) ?_
    refine k_Vv F w (As := []) (rest := []) (a := 0) (kd_lt (a := 0) (show kd 0 = (11, 0, 0) from rfl) (by decide)) (sh_11 rfl _ _) rfl (q_X11_outdate   hIN8) gv_X11_97 hv_X11_outdate ⟨(Nat.le_of_ble_eq_true rfl), (Nat.le_of_ble_eq_true rfl)⟩ hl.1 rfl (Nat.le_of_ble_eq_true rfl) ⟨Nat.zero_le _, Nat.zero_le _⟩ dX11_rules_48 (fun N12 H locs hp w => ?_)
    obtain ⟨hIN12, hFN12⟩ := hp
    have hGN12 := Fr.tr hGN8 hFN12 (S := (fun b9 k9 => (b9 = 1 ∧ k9 = 1) ∨ (b9 = 109 ∧ k9 = 0) ∨ (b9 = 22 ∧ k9 = 2) ∨ (b9 = 22 ∧ k9 = 7) ∨ (b9 = 4 ∧ k9 = 2) ∨ (b9 = 4 ∧ k9 = 3) ∨ (b9 = 4 ∧ k9 = 4) ∨ (b9 = 4 ∧ k9 = 5) ∨ b9 = 135 ∨ (28 ≤ b9 ∧ b9 ≤ 43) ∨ (6 ≤ b9 ∧ b9 ≤ 21))) (fun b k h => by first | omega | (dsimp only at h ⊢; omega))
    have kn14 : N12.1 1 1 = zI 0 := (hFN12 1 1 (by first | omega | (dsimp only; omega))).trans (kn10)
    refine lv_aload_n hx hb dX11_rules_51 rfl (lv_at hl 1 rfl) ?_
    refine f_11_3 F w (a := 0) rfl tb_273 dX11_rules_52 ?_
    refine f_0_2 F w (a := 22) rfl tb_379 dX11_rules_55 ?_
    obtain ⟨z15, bz15, ez15⟩ := Inv.ld (k := 2) hIN12 (show iv 22 2 = (0, 8) from rfl) (show 22 < 146 by decide)
    refine r_val ez15 ?_
    rw [hQ]
    exact e_i F w hr hlocks ⟨_, rfl, (by omega), ⟨0, (kn14), ⟨by omega, by omega⟩, (by omega)⟩, hIN12, hGN12⟩ dX11_rules_58
  · refine lv_bipush (v := zI (-4)) hx hb dX11_rules_21 (by decide) ?_
    refine lv_iload_n hx hb dX11_rules_23 rfl (lv_at hl 0 rfl) ?_
    obtain ⟨z16, bz16, x0z16, ez16⟩ := sub_ex (-4) z3
    refine lv_isub hx hb dX11_rules_24 ?_
    refine r_val ez16 ?_
    rw [hQ]
    exact e_i F w hr hlocks ⟨_, rfl, (by omega), ⟨0, (st_at), ⟨by omega, by omega⟩, (by omega)⟩, (Inv.to hIN2 (a := 1) (k := 1) (x := 0) (show iv 1 1 = (0, 300) from rfl) (by omega)), (Fr.to hGN2 (by first | omega | (dsimp only; first | done | omega)))⟩ dX11_rules_25
set_option maxRecDepth 4000 in
theorem x_X12_feed {l : Launch} {D : va_G} {B : Nat} {cy : Nat → ClassId} {M : Mem} {x : Int} (hx : (-2147483648) ≤ x ∧ x ≤ 2147483647) {x1 : Int} (hx1 : (-2147483648) ≤ x1 ∧ x1 ≤ 2147483647) {x2 : Int} (hx2 : (-2147483648) ≤ x2 ∧ x2 ≤ 2147483647) {x3 : Int} (hx3 : (-2147483648) ≤ x3 ∧ x3 ≤ 2147483647) {x4 : Int} (hx4 : (-2147483648) ≤ x4 ∧ x4 ≤ 2147483647) {ts : Int} (hgts : M.1 146 8 = zI ts) (hts : 0 ≤ ts ∧ ts ≤ 300) (hI : IvR M) : Ci l D B cy yX12_feed cX12_feed 8 (some .int) 0 0 [.ref (B + 146), .int (zI x), .int (zI x1), .int (zI x2), .int (zI x3), .int (zI x4)] M (fun r M1 => ∃ z : Int, r = zI z ∧ ((-1) ≤ z ∧ z ≤ 300) ∧ (∃ ts2 : Int, M1.1 146 8 = zI ts2 ∧ ((0 ≤ ts2 ∧ ts2 ≤ 300) ∧ ((280 < ts ∧ z = -1 ∧ ts2 = ts) ∨ (ts ≤ 280 ∧ z = ts + 20 ∧ ts2 = ts + 20)))) ∧ IvR M1 ∧ Fr (fun b9 k9 => (b9 = 146 ∧ k9 = 8) ∨ b9 = 150) M1 M) := by
  refine s_anyQ (by decide) (Nat.le_of_ble_eq_true rfl) ?_
  intro p e s m args below meth c ls Q F hr hlocks hQ w hl
  have F : CallFix p m c cX12_feed 8 s args TB RX12 := F
  have hx := F.1
  have hb := F.2.1
  have hl : lv_has ls 8 [(0, .ref (B + 146)), (1, .int (zI x)), (2, .int (zI x1)), (3, .int (zI x2)), (4, .int (zI x3)), (5, .int (zI x4))] := hl
  have hF : Fr (fun b9 k9 => (b9 = 146 ∧ k9 = 8) ∨ b9 = 150) M M := Fr.rf
  refine lv_aload_n hx hb dX12_feed_0 rfl (lv_at hl 0 rfl) ?_
  refine f_12_8 F w (a := 146) rfl tb_587 dX12_feed_1 ?_
  refine r_val (v := zI ts) (hgts) ?_
  refine lv_bipush (v := zI 20) hx hb dX12_feed_4 (by decide) ?_
  refine z_iadd (z := (ts + 20)) hx hb dX12_feed_6 (by omega) ?_
  refine lv_sipush (v := zI 300) hx hb dX12_feed_7 (by decide) ?_
  refine z_icmp_le (tgt := 15) hx hb (by omega) (by omega) dX12_feed_10 (by decide) (fun c1 => ?_) (fun c1 => ?_)
  · refine lv_iconst (v := zI 0) hx hb dX12_feed_15 rfl ?_
    refine lv_istore (lv' := [(6, .int (zI 0)), (0, .ref (B + 146)), (1, .int (zI x)), (2, .int (zI x1)), (3, .int (zI x2)), (4, .int (zI x3)), (5, .int (zI x4))]) hx hb dX12_feed_16 hl (by decide) rfl (fun ls hl => ?_)
    have lp18 : ∀ (f : Nat) (v6_18 : Int) (g146_8_18 : Int) (NL18 : Mem), (0 ≤ v6_18 ∧ v6_18 ≤ 20) → (0 ≤ g146_8_18 ∧ g146_8_18 ≤ 300) → NL18.1 146 8 = zI g146_8_18 → (g146_8_18 = ts + v6_18) → IvR NL18 → Fr (fun b9 k9 => (b9 = 146 ∧ k9 = 8) ∨ b9 = 150) NL18 M → (Int.toNat (20 - v6_18) < f) → ∀ (H : Heap) (locs : List Loc) (ls : Array Slot), Wd D B cy s s.heap NL18 H locs → lv_has ls 8 [(6, .int (zI v6_18)), (0, .ref (B + 146)), (1, .int (zI x)), (2, .int (zI x1)), (3, .int (zI x2)), (4, .int (zI x3)), (5, .int (zI x4))] → W p l e (rmm 0 0) s m args below meth c H locs 0 0 Q (F0 m 18 ls []) := by
      intro f
      induction f with
      | zero => intros; omega
      | succ f ih18 =>
        intro v6_18 g146_8_18 NL18 iv6_18 ig146_8_18 eg146_8_18 y18_0 hIL18 hFL18 hf18 H locs ls w hl
        refine lv_iload hx hb dX12_feed_18 (lv_at hl 0 rfl) ?_
        refine lv_bipush (v := zI 20) hx hb dX12_feed_20 (by decide) ?_
        refine z_icmp_ge (tgt := 115) hx hb (by omega) (by omega) dX12_feed_22 (by decide) (fun c2 => ?_) (fun c2 => ?_)
        · refine lv_aload_n hx hb dX12_feed_115 rfl (lv_at hl 1 rfl) ?_
          refine f_12_8 F w (a := 146) rfl tb_587 dX12_feed_116 ?_
          refine r_val (v := zI g146_8_18) (eg146_8_18) ?_
          rw [hQ]
          exact e_i F w hr hlocks ⟨_, rfl, ⟨by omega, by omega⟩, ⟨g146_8_18, (eg146_8_18), ⟨by omega, by omega⟩, (by omega)⟩, hIL18, hFL18⟩ dX12_feed_119
        · refine lv_iload hx hb dX12_feed_25 (lv_at hl 0 rfl) ?_
          refine lv_iconst (v := zI 4) hx hb dX12_feed_27 rfl ?_
          refine z_icmp_ge (tgt := 35) hx hb (by omega) (by omega) dX12_feed_28 (by decide) (fun c3 => ?_) (fun c3 => ?_)
          · refine lv_iload hx hb dX12_feed_35 (lv_at hl 0 rfl) ?_
            refine lv_bipush (v := zI 8) hx hb dX12_feed_37 (by decide) ?_
            refine z_icmp_ge (tgt := 46) hx hb (by omega) (by omega) dX12_feed_39 (by decide) (fun c4 => ?_) (fun c4 => ?_)
            · refine lv_iload hx hb dX12_feed_46 (lv_at hl 0 rfl) ?_
              refine lv_bipush (v := zI 12) hx hb dX12_feed_48 (by decide) ?_
              refine z_icmp_ge (tgt := 57) hx hb (by omega) (by omega) dX12_feed_50 (by decide) (fun c5 => ?_) (fun c5 => ?_)
              · refine lv_iload hx hb dX12_feed_57 (lv_at hl 0 rfl) ?_
                refine lv_bipush (v := zI 16) hx hb dX12_feed_59 (by decide) ?_
                refine z_icmp_ge (tgt := 69) hx hb (by omega) (by omega) dX12_feed_61 (by decide) (fun c6 => ?_) (fun c6 => ?_)
                · refine lv_iload hx hb dX12_feed_69 (lv_at hl 6 rfl) ?_
                  refine lv_istore (lv' := [(7, .int (zI x4)), (6, .int (zI v6_18)), (0, .ref (B + 146)), (1, .int (zI x)), (2, .int (zI x1)), (3, .int (zI x2)), (4, .int (zI x3)), (5, .int (zI x4))]) hx hb dX12_feed_71 hl (by decide) rfl (fun ls hl => ?_)
                  refine lv_aload_n hx hb dX12_feed_73 rfl (lv_at hl 2 rfl) ?_
                  refine f_12_7 F w (a := 146) rfl tb_588 dX12_feed_74 ?_
                  refine lv_aload_n hx hb dX12_feed_77 rfl (lv_at hl 2 rfl) ?_
                  refine f_12_8 F w (a := 146) rfl tb_587 dX12_feed_78 ?_
                  refine r_val (v := zI g146_8_18) (eg146_8_18) ?_
                  refine lv_iload hx hb dX12_feed_81 (lv_at hl 0 rfl) ?_
                  refine lv_bipush (v := zI 24) hx hb dX12_feed_83 (by decide) ?_
                  refine lv_bipush (v := zI 8) hx hb dX12_feed_85 (by decide) ?_
                  refine lv_iload hx hb dX12_feed_87 (lv_at hl 1 rfl) ?_
                  refine lv_iconst (v := zI 4) hx hb dX12_feed_89 rfl ?_
                  refine lv_irem hx hb dX12_feed_90 (nz_z (by omega) (by omega)) ?_
                  obtain ⟨z7, bz7, x0z7, ez7⟩ := rem_ex v6_18 4 (by omega) (by omega)
                  refine r_val ez7 ?_
                  refine z_imul (z := (8 * z7)) hx hb dX12_feed_91 (by omega) ?_
                  refine z_isub (z := (24 - (8 * z7))) hx hb dX12_feed_92 (by omega) ?_
                  obtain ⟨z8, bz8, x0z8, ez8⟩ := shr_ex x4 (24 - (8 * z7)) (by omega)
                  refine lv_ishr hx hb dX12_feed_93 ?_
                  refine r_val ez8 ?_
                  refine lv_sipush (v := zI 255) hx hb dX12_feed_94 (by decide) ?_
                  obtain ⟨z9, bz9, x0z9, x1z9, ez9⟩ := and_ex z8 255 (by omega) (by omega)
                  refine lv_iand hx hb dX12_feed_97 ?_
                  refine r_val ez9 ?_
                  refine g_iast F w (a := 150) rfl (j := (Int.toNat g146_8_18)) (ix_z (by omega) (by omega)) (by omega) dX12_feed_98 (fun H locs w => ?_)
                  refine lv_aload_n hx hb dX12_feed_99 rfl (lv_at hl 2 rfl) ?_
                  refine lv_dup hx hb dX12_feed_100 rfl ?_
                  refine f_12_8 F w (a := 146) rfl tb_587 dX12_feed_101 ?_
                  refine r_val (v := zI g146_8_18) ((st_ne (Or.inl (by decide))).trans eg146_8_18) ?_
                  refine lv_iconst (v := zI 1) hx hb dX12_feed_104 rfl ?_
                  refine z_iadd (z := (g146_8_18 + 1)) hx hb dX12_feed_105 (by omega) ?_
                  refine u_12_8 F w (a := 146) rfl tb_587 dX12_feed_106 (fun H locs w => ?_)
                  refine z_iinc (v := (v6_18 + 1)) (lv' := [(6, .int (zI (v6_18 + 1))), (7, .int (zI x4)), (0, .ref (B + 146)), (1, .int (zI x)), (2, .int (zI x1)), (3, .int (zI x2)), (4, .int (zI x3)), (5, .int (zI x4))]) hx hb dX12_feed_109 hl (k := 1) rfl (by omega) (by decide) rfl (fun ls hl => ?_)
                  refine lv_goto (tgt := 18) hx hb dX12_feed_112 (by decide) ?_
                  exact ih18 (v6_18 + 1) (g146_8_18 + 1) (st (st NL18 150 (Int.toNat g146_8_18) (zI z9)) 146 8 (zI (g146_8_18 + 1))) (by omega) (by omega) (st_at) (by omega) (IvR.to (IvR.to hIL18 (a := 150) (k := (Int.toNat g146_8_18)) (x := z9) (show ivr 150 (Int.toNat g146_8_18) = (0, 255) from rfl) ⟨by omega, by omega⟩ ⟨by decide, by decide, by decide, fun q9 => absurd q9 (by decide)⟩) (a := 146) (k := 8) (x := (g146_8_18 + 1)) (show ivr 146 8 = (0, 300) from rfl) ⟨by omega, by omega⟩ ⟨by decide, by decide, by decide, fun q9 => absurd q9 (by decide)⟩) (Fr.to (Fr.to hFL18 (by first | decide | (dsimp only; first | done | decide | omega) | omega)) (by first | decide | (dsimp only; first | done | decide | omega) | omega)) (by omega) _ _ _ w (lv_sub hl [0, 2, 3, 4, 5, 6, 7] rfl)
                · refine lv_iload hx hb dX12_feed_64 (lv_at hl 5 rfl) ?_
                  refine lv_goto (tgt := 71) hx hb dX12_feed_66 (by decide) ?_
                  refine lv_istore (lv' := [(7, .int (zI x3)), (6, .int (zI v6_18)), (0, .ref (B + 146)), (1, .int (zI x)), (2, .int (zI x1)), (3, .int (zI x2)), (4, .int (zI x3)), (5, .int (zI x4))]) hx hb dX12_feed_71 hl (by decide) rfl (fun ls hl => ?_)
                  refine lv_aload_n hx hb dX12_feed_73 rfl (lv_at hl 2 rfl) ?_
                  refine f_12_7 F w (a := 146) rfl tb_588 dX12_feed_74 ?_
                  refine lv_aload_n hx hb dX12_feed_77 rfl (lv_at hl 2 rfl) ?_
                  refine f_12_8 F w (a := 146) rfl tb_587 dX12_feed_78 ?_
                  refine r_val (v := zI g146_8_18) (eg146_8_18) ?_
                  refine lv_iload hx hb dX12_feed_81 (lv_at hl 0 rfl) ?_
                  refine lv_bipush (v := zI 24) hx hb dX12_feed_83 (by decide) ?_
                  refine lv_bipush (v := zI 8) hx hb dX12_feed_85 (by decide) ?_
                  refine lv_iload hx hb dX12_feed_87 (lv_at hl 1 rfl) ?_
                  refine lv_iconst (v := zI 4) hx hb dX12_feed_89 rfl ?_
                  refine lv_irem hx hb dX12_feed_90 (nz_z (by omega) (by omega)) ?_
                  obtain ⟨z10, bz10, x0z10, ez10⟩ := rem_ex v6_18 4 (by omega) (by omega)
                  refine r_val ez10 ?_
                  refine z_imul (z := (8 * z10)) hx hb dX12_feed_91 (by omega) ?_
                  refine z_isub (z := (24 - (8 * z10))) hx hb dX12_feed_92 (by omega) ?_
                  obtain ⟨z11, bz11, x0z11, ez11⟩ := shr_ex x3 (24 - (8 * z10)) (by omega)
                  refine lv_ishr hx hb dX12_feed_93 ?_
                  refine r_val ez11 ?_
                  refine lv_sipush (v := zI 255) hx hb dX12_feed_94 (by decide) ?_
                  obtain ⟨z12, bz12, x0z12, x1z12, ez12⟩ := and_ex z11 255 (by omega) (by omega)
                  refine lv_iand hx hb dX12_feed_97 ?_
                  refine r_val ez12 ?_
                  refine g_iast F w (a := 150) rfl (j := (Int.toNat g146_8_18)) (ix_z (by omega) (by omega)) (by omega) dX12_feed_98 (fun H locs w => ?_)
                  refine lv_aload_n hx hb dX12_feed_99 rfl (lv_at hl 2 rfl) ?_
                  refine lv_dup hx hb dX12_feed_100 rfl ?_
                  refine f_12_8 F w (a := 146) rfl tb_587 dX12_feed_101 ?_
                  refine r_val (v := zI g146_8_18) ((st_ne (Or.inl (by decide))).trans eg146_8_18) ?_
                  refine lv_iconst (v := zI 1) hx hb dX12_feed_104 rfl ?_
                  refine z_iadd (z := (g146_8_18 + 1)) hx hb dX12_feed_105 (by omega) ?_
                  refine u_12_8 F w (a := 146) rfl tb_587 dX12_feed_106 (fun H locs w => ?_)
                  refine z_iinc (v := (v6_18 + 1)) (lv' := [(6, .int (zI (v6_18 + 1))), (7, .int (zI x3)), (0, .ref (B + 146)), (1, .int (zI x)), (2, .int (zI x1)), (3, .int (zI x2)), (4, .int (zI x3)), (5, .int (zI x4))]) hx hb dX12_feed_109 hl (k := 1) rfl (by omega) (by decide) rfl (fun ls hl => ?_)
                  refine lv_goto (tgt := 18) hx hb dX12_feed_112 (by decide) ?_
                  exact ih18 (v6_18 + 1) (g146_8_18 + 1) (st (st NL18 150 (Int.toNat g146_8_18) (zI z12)) 146 8 (zI (g146_8_18 + 1))) (by omega) (by omega) (st_at) (by omega) (IvR.to (IvR.to hIL18 (a := 150) (k := (Int.toNat g146_8_18)) (x := z12) (show ivr 150 (Int.toNat g146_8_18) = (0, 255) from rfl) ⟨by omega, by omega⟩ ⟨by decide, by decide, by decide, fun q9 => absurd q9 (by decide)⟩) (a := 146) (k := 8) (x := (g146_8_18 + 1)) (show ivr 146 8 = (0, 300) from rfl) ⟨by omega, by omega⟩ ⟨by decide, by decide, by decide, fun q9 => absurd q9 (by decide)⟩) (Fr.to (Fr.to hFL18 (by first | decide | (dsimp only; first | done | decide | omega) | omega)) (by first | decide | (dsimp only; first | done | decide | omega) | omega)) (by omega) _ _ _ w (lv_sub hl [0, 2, 3, 4, 5, 6, 7] rfl)
              · refine lv_iload_n hx hb dX12_feed_53 rfl (lv_at hl 4 rfl) ?_
                refine lv_goto (tgt := 71) hx hb dX12_feed_54 (by decide) ?_
                refine lv_istore (lv' := [(7, .int (zI x2)), (6, .int (zI v6_18)), (0, .ref (B + 146)), (1, .int (zI x)), (2, .int (zI x1)), (3, .int (zI x2)), (4, .int (zI x3)), (5, .int (zI x4))]) hx hb dX12_feed_71 hl (by decide) rfl (fun ls hl => ?_)
                refine lv_aload_n hx hb dX12_feed_73 rfl (lv_at hl 2 rfl) ?_
                refine f_12_7 F w (a := 146) rfl tb_588 dX12_feed_74 ?_
                refine lv_aload_n hx hb dX12_feed_77 rfl (lv_at hl 2 rfl) ?_
                refine f_12_8 F w (a := 146) rfl tb_587 dX12_feed_78 ?_
                refine r_val (v := zI g146_8_18) (eg146_8_18) ?_
                refine lv_iload hx hb dX12_feed_81 (lv_at hl 0 rfl) ?_
                refine lv_bipush (v := zI 24) hx hb dX12_feed_83 (by decide) ?_
                refine lv_bipush (v := zI 8) hx hb dX12_feed_85 (by decide) ?_
                refine lv_iload hx hb dX12_feed_87 (lv_at hl 1 rfl) ?_
                refine lv_iconst (v := zI 4) hx hb dX12_feed_89 rfl ?_
                refine lv_irem hx hb dX12_feed_90 (nz_z (by omega) (by omega)) ?_
                obtain ⟨z13, bz13, x0z13, ez13⟩ := rem_ex v6_18 4 (by omega) (by omega)
                refine r_val ez13 ?_
                refine z_imul (z := (8 * z13)) hx hb dX12_feed_91 (by omega) ?_
                refine z_isub (z := (24 - (8 * z13))) hx hb dX12_feed_92 (by omega) ?_
                obtain ⟨z14, bz14, x0z14, ez14⟩ := shr_ex x2 (24 - (8 * z13)) (by omega)
                refine lv_ishr hx hb dX12_feed_93 ?_
                refine r_val ez14 ?_
                refine lv_sipush (v := zI 255) hx hb dX12_feed_94 (by decide) ?_
                obtain ⟨z15, bz15, x0z15, x1z15, ez15⟩ := and_ex z14 255 (by omega) (by omega)
                refine lv_iand hx hb dX12_feed_97 ?_
                refine r_val ez15 ?_
                refine g_iast F w (a := 150) rfl (j := (Int.toNat g146_8_18)) (ix_z (by omega) (by omega)) (by omega) dX12_feed_98 (fun H locs w => ?_)
                refine lv_aload_n hx hb dX12_feed_99 rfl (lv_at hl 2 rfl) ?_
                refine lv_dup hx hb dX12_feed_100 rfl ?_
                refine f_12_8 F w (a := 146) rfl tb_587 dX12_feed_101 ?_
                refine r_val (v := zI g146_8_18) ((st_ne (Or.inl (by decide))).trans eg146_8_18) ?_
                refine lv_iconst (v := zI 1) hx hb dX12_feed_104 rfl ?_
                refine z_iadd (z := (g146_8_18 + 1)) hx hb dX12_feed_105 (by omega) ?_
                refine u_12_8 F w (a := 146) rfl tb_587 dX12_feed_106 (fun H locs w => ?_)
                refine z_iinc (v := (v6_18 + 1)) (lv' := [(6, .int (zI (v6_18 + 1))), (7, .int (zI x2)), (0, .ref (B + 146)), (1, .int (zI x)), (2, .int (zI x1)), (3, .int (zI x2)), (4, .int (zI x3)), (5, .int (zI x4))]) hx hb dX12_feed_109 hl (k := 1) rfl (by omega) (by decide) rfl (fun ls hl => ?_)
                refine lv_goto (tgt := 18) hx hb dX12_feed_112 (by decide) ?_
                exact ih18 (v6_18 + 1) (g146_8_18 + 1) (st (st NL18 150 (Int.toNat g146_8_18) (zI z15)) 146 8 (zI (g146_8_18 + 1))) (by omega) (by omega) (st_at) (by omega) (IvR.to (IvR.to hIL18 (a := 150) (k := (Int.toNat g146_8_18)) (x := z15) (show ivr 150 (Int.toNat g146_8_18) = (0, 255) from rfl) ⟨by omega, by omega⟩ ⟨by decide, by decide, by decide, fun q9 => absurd q9 (by decide)⟩) (a := 146) (k := 8) (x := (g146_8_18 + 1)) (show ivr 146 8 = (0, 300) from rfl) ⟨by omega, by omega⟩ ⟨by decide, by decide, by decide, fun q9 => absurd q9 (by decide)⟩) (Fr.to (Fr.to hFL18 (by first | decide | (dsimp only; first | done | decide | omega) | omega)) (by first | decide | (dsimp only; first | done | decide | omega) | omega)) (by omega) _ _ _ w (lv_sub hl [0, 2, 3, 4, 5, 6, 7] rfl)
            · refine lv_iload_n hx hb dX12_feed_42 rfl (lv_at hl 3 rfl) ?_
              refine lv_goto (tgt := 71) hx hb dX12_feed_43 (by decide) ?_
              refine lv_istore (lv' := [(7, .int (zI x1)), (6, .int (zI v6_18)), (0, .ref (B + 146)), (1, .int (zI x)), (2, .int (zI x1)), (3, .int (zI x2)), (4, .int (zI x3)), (5, .int (zI x4))]) hx hb dX12_feed_71 hl (by decide) rfl (fun ls hl => ?_)
              refine lv_aload_n hx hb dX12_feed_73 rfl (lv_at hl 2 rfl) ?_
              refine f_12_7 F w (a := 146) rfl tb_588 dX12_feed_74 ?_
              refine lv_aload_n hx hb dX12_feed_77 rfl (lv_at hl 2 rfl) ?_
              refine f_12_8 F w (a := 146) rfl tb_587 dX12_feed_78 ?_
              refine r_val (v := zI g146_8_18) (eg146_8_18) ?_
              refine lv_iload hx hb dX12_feed_81 (lv_at hl 0 rfl) ?_
              refine lv_bipush (v := zI 24) hx hb dX12_feed_83 (by decide) ?_
              refine lv_bipush (v := zI 8) hx hb dX12_feed_85 (by decide) ?_
              refine lv_iload hx hb dX12_feed_87 (lv_at hl 1 rfl) ?_
              refine lv_iconst (v := zI 4) hx hb dX12_feed_89 rfl ?_
              refine lv_irem hx hb dX12_feed_90 (nz_z (by omega) (by omega)) ?_
              obtain ⟨z16, bz16, x0z16, ez16⟩ := rem_ex v6_18 4 (by omega) (by omega)
              refine r_val ez16 ?_
              refine z_imul (z := (8 * z16)) hx hb dX12_feed_91 (by omega) ?_
              refine z_isub (z := (24 - (8 * z16))) hx hb dX12_feed_92 (by omega) ?_
              obtain ⟨z17, bz17, x0z17, ez17⟩ := shr_ex x1 (24 - (8 * z16)) (by omega)
              refine lv_ishr hx hb dX12_feed_93 ?_
              refine r_val ez17 ?_
              refine lv_sipush (v := zI 255) hx hb dX12_feed_94 (by decide) ?_
              obtain ⟨z18, bz18, x0z18, x1z18, ez18⟩ := and_ex z17 255 (by omega) (by omega)
              refine lv_iand hx hb dX12_feed_97 ?_
              refine r_val ez18 ?_
              refine g_iast F w (a := 150) rfl (j := (Int.toNat g146_8_18)) (ix_z (by omega) (by omega)) (by omega) dX12_feed_98 (fun H locs w => ?_)
              refine lv_aload_n hx hb dX12_feed_99 rfl (lv_at hl 2 rfl) ?_
              refine lv_dup hx hb dX12_feed_100 rfl ?_
              refine f_12_8 F w (a := 146) rfl tb_587 dX12_feed_101 ?_
              refine r_val (v := zI g146_8_18) ((st_ne (Or.inl (by decide))).trans eg146_8_18) ?_
              refine lv_iconst (v := zI 1) hx hb dX12_feed_104 rfl ?_
              refine z_iadd (z := (g146_8_18 + 1)) hx hb dX12_feed_105 (by omega) ?_
              refine u_12_8 F w (a := 146) rfl tb_587 dX12_feed_106 (fun H locs w => ?_)
              refine z_iinc (v := (v6_18 + 1)) (lv' := [(6, .int (zI (v6_18 + 1))), (7, .int (zI x1)), (0, .ref (B + 146)), (1, .int (zI x)), (2, .int (zI x1)), (3, .int (zI x2)), (4, .int (zI x3)), (5, .int (zI x4))]) hx hb dX12_feed_109 hl (k := 1) rfl (by omega) (by decide) rfl (fun ls hl => ?_)
              refine lv_goto (tgt := 18) hx hb dX12_feed_112 (by decide) ?_
              exact ih18 (v6_18 + 1) (g146_8_18 + 1) (st (st NL18 150 (Int.toNat g146_8_18) (zI z18)) 146 8 (zI (g146_8_18 + 1))) (by omega) (by omega) (st_at) (by omega) (IvR.to (IvR.to hIL18 (a := 150) (k := (Int.toNat g146_8_18)) (x := z18) (show ivr 150 (Int.toNat g146_8_18) = (0, 255) from rfl) ⟨by omega, by omega⟩ ⟨by decide, by decide, by decide, fun q9 => absurd q9 (by decide)⟩) (a := 146) (k := 8) (x := (g146_8_18 + 1)) (show ivr 146 8 = (0, 300) from rfl) ⟨by omega, by omega⟩ ⟨by decide, by decide, by decide, fun q9 => absurd q9 (by decide)⟩) (Fr.to (Fr.to hFL18 (by first | decide | (dsimp only; first | done | decide | omega) | omega)) (by first | decide | (dsimp only; first | done | decide | omega) | omega)) (by omega) _ _ _ w (lv_sub hl [0, 2, 3, 4, 5, 6, 7] rfl)
          · refine lv_iload_n hx hb dX12_feed_31 rfl (lv_at hl 2 rfl) ?_
            refine lv_goto (tgt := 71) hx hb dX12_feed_32 (by decide) ?_
            refine lv_istore (lv' := [(7, .int (zI x)), (6, .int (zI v6_18)), (0, .ref (B + 146)), (1, .int (zI x)), (2, .int (zI x1)), (3, .int (zI x2)), (4, .int (zI x3)), (5, .int (zI x4))]) hx hb dX12_feed_71 hl (by decide) rfl (fun ls hl => ?_)
            refine lv_aload_n hx hb dX12_feed_73 rfl (lv_at hl 2 rfl) ?_
            refine f_12_7 F w (a := 146) rfl tb_588 dX12_feed_74 ?_
            refine lv_aload_n hx hb dX12_feed_77 rfl (lv_at hl 2 rfl) ?_
            refine f_12_8 F w (a := 146) rfl tb_587 dX12_feed_78 ?_
            refine r_val (v := zI g146_8_18) (eg146_8_18) ?_
            refine lv_iload hx hb dX12_feed_81 (lv_at hl 0 rfl) ?_
            refine lv_bipush (v := zI 24) hx hb dX12_feed_83 (by decide) ?_
            refine lv_bipush (v := zI 8) hx hb dX12_feed_85 (by decide) ?_
            refine lv_iload hx hb dX12_feed_87 (lv_at hl 1 rfl) ?_
            refine lv_iconst (v := zI 4) hx hb dX12_feed_89 rfl ?_
            refine lv_irem hx hb dX12_feed_90 (nz_z (by omega) (by omega)) ?_
            obtain ⟨z19, bz19, x0z19, ez19⟩ := rem_ex v6_18 4 (by omega) (by omega)
            refine r_val ez19 ?_
            refine z_imul (z := (8 * z19)) hx hb dX12_feed_91 (by omega) ?_
            refine z_isub (z := (24 - (8 * z19))) hx hb dX12_feed_92 (by omega) ?_
            obtain ⟨z20, bz20, x0z20, ez20⟩ := shr_ex x (24 - (8 * z19)) (by omega)
            refine lv_ishr hx hb dX12_feed_93 ?_
            refine r_val ez20 ?_
            refine lv_sipush (v := zI 255) hx hb dX12_feed_94 (by decide) ?_
            obtain ⟨z21, bz21, x0z21, x1z21, ez21⟩ := and_ex z20 255 (by omega) (by omega)
            refine lv_iand hx hb dX12_feed_97 ?_
            refine r_val ez21 ?_
            refine g_iast F w (a := 150) rfl (j := (Int.toNat g146_8_18)) (ix_z (by omega) (by omega)) (by omega) dX12_feed_98 (fun H locs w => ?_)
            refine lv_aload_n hx hb dX12_feed_99 rfl (lv_at hl 2 rfl) ?_
            refine lv_dup hx hb dX12_feed_100 rfl ?_
            refine f_12_8 F w (a := 146) rfl tb_587 dX12_feed_101 ?_
            refine r_val (v := zI g146_8_18) ((st_ne (Or.inl (by decide))).trans eg146_8_18) ?_
            refine lv_iconst (v := zI 1) hx hb dX12_feed_104 rfl ?_
            refine z_iadd (z := (g146_8_18 + 1)) hx hb dX12_feed_105 (by omega) ?_
            refine u_12_8 F w (a := 146) rfl tb_587 dX12_feed_106 (fun H locs w => ?_)
            refine z_iinc (v := (v6_18 + 1)) (lv' := [(6, .int (zI (v6_18 + 1))), (7, .int (zI x)), (0, .ref (B + 146)), (1, .int (zI x)), (2, .int (zI x1)), (3, .int (zI x2)), (4, .int (zI x3)), (5, .int (zI x4))]) hx hb dX12_feed_109 hl (k := 1) rfl (by omega) (by decide) rfl (fun ls hl => ?_)
            refine lv_goto (tgt := 18) hx hb dX12_feed_112 (by decide) ?_
            exact ih18 (v6_18 + 1) (g146_8_18 + 1) (st (st NL18 150 (Int.toNat g146_8_18) (zI z21)) 146 8 (zI (g146_8_18 + 1))) (by omega) (by omega) (st_at) (by omega) (IvR.to (IvR.to hIL18 (a := 150) (k := (Int.toNat g146_8_18)) (x := z21) (show ivr 150 (Int.toNat g146_8_18) = (0, 255) from rfl) ⟨by omega, by omega⟩ ⟨by decide, by decide, by decide, fun q9 => absurd q9 (by decide)⟩) (a := 146) (k := 8) (x := (g146_8_18 + 1)) (show ivr 146 8 = (0, 300) from rfl) ⟨by omega, by omega⟩ ⟨by decide, by decide, by decide, fun q9 => absurd q9 (by decide)⟩) (Fr.to (Fr.to hFL18 (by first | decide | (dsimp only; first | done | decide | omega) | omega)) (by first | decide | (dsimp only; first | done | decide | omega) | omega)) (by omega) _ _ _ w (lv_sub hl [0, 2, 3, 4, 5, 6, 7] rfl)
    exact lp18 _ 0 ts M (by omega) (by omega) (hgts) (by omega) hI hF (Nat.lt_succ_self _) _ _ _ w (lv_sub hl [0, 1, 2, 3, 4, 5, 6] rfl)
  · refine lv_iconst (v := zI (-1)) hx hb dX12_feed_13 rfl ?_
    rw [hQ]
    exact e_i F w hr hlocks ⟨_, rfl, ⟨by omega, by omega⟩, ⟨ts, (hgts), ⟨by omega, by omega⟩, (by omega)⟩, hI, hF⟩ dX12_feed_14
set_option maxRecDepth 4000 in
theorem x_X12_back {l : Launch} {D : va_G} {B : Nat} {cy : Nat → ClassId} {M : Mem} {x : Int} (hx : (-2147483648) ≤ x ∧ x ≤ 2147483647) {ts : Int} (hgts : M.1 146 8 = zI ts) (hts : 0 ≤ ts ∧ ts ≤ 300) (hI : IvR M) : Ci l D B cy yX12_back cX12_back 2 (some .int) 1 22 [.ref (B + 146), .int (zI x)] M (fun r M1 => ∃ z : Int, r = zI z ∧ ((-1) ≤ z ∧ z ≤ 300) ∧ (∃ ts2 : Int, M1.1 146 8 = zI ts2 ∧ ((0 ≤ ts2 ∧ ts2 ≤ 300) ∧ (((x < 0 ∨ ts < x) ∧ z = -1 ∧ ts2 = ts) ∨ (0 ≤ x ∧ x ≤ ts ∧ z = ts - x ∧ ts2 = ts - x)))) ∧ IvR M1 ∧ Fr (fun b9 k9 => (b9 = 146 ∧ k9 = 8)) M1 M) := by
  refine s_anyQ (by decide) (Nat.le_of_ble_eq_true rfl) ?_
  intro p e s m args below meth c ls Q F hr hlocks hQ w hl
  have F : CallFix p m c cX12_back 2 s args TB RX12 := F
  have hx := F.1
  have hb := F.2.1
  have hl : lv_has ls 2 [(0, .ref (B + 146)), (1, .int (zI x))] := hl
  have hF : Fr (fun b9 k9 => (b9 = 146 ∧ k9 = 8)) M M := Fr.rf
  refine lv_iload_n hx hb dX12_back_0 rfl (lv_at hl 1 rfl) ?_
  refine lv_iconst (v := zI 0) hx hb dX12_back_1 rfl ?_
  refine lv_aload_n hx hb dX12_back_2 rfl (lv_at hl 0 rfl) ?_
  refine f_12_8 F w (a := 146) rfl tb_587 dX12_back_3 ?_
  refine r_val (v := zI ts) (hgts) ?_
  refine k_Si F w (As := [.int (zI x), .int (zI 0), .int (zI ts)]) (rest := []) (q_X12_in (x := x) ⟨by omega, by omega⟩ (x1 := 0) ⟨by omega, by omega⟩ (x2 := ts) ⟨by omega, by omega⟩  hI) gs_X12_55 hs_X12_in ⟨(Nat.le_of_ble_eq_true rfl), (Nat.le_of_ble_eq_true rfl)⟩ hl.1 rfl (Nat.le_of_ble_eq_true rfl) ⟨Nat.zero_le _, Nat.zero_le _⟩ dX12_back_6 (fun r1 N2 H locs hp w => ?_)
  obtain ⟨z3, rfl, bz3, xz3, hMN2⟩ := hp
  rw [hMN2] at w
  refine z_if_ne (tgt := 14) hx hb (by omega) dX12_back_9 (by decide) (fun c4 => ?_) (fun c4 => ?_)
  · refine lv_aload_n hx hb dX12_back_14 rfl (lv_at hl 0 rfl) ?_
    refine lv_dup hx hb dX12_back_15 rfl ?_
    refine f_12_8 F w (a := 146) rfl tb_587 dX12_back_16 ?_
    refine r_val (v := zI ts) (hgts) ?_
    refine lv_iload_n hx hb dX12_back_19 rfl (lv_at hl 1 rfl) ?_
    obtain ⟨z5, bz5, x0z5, ez5⟩ := sub_ex ts x
    refine lv_isub hx hb dX12_back_20 ?_
    refine r_val ez5 ?_
    refine u_12_8 F w (a := 146) rfl tb_587 dX12_back_21 (fun H locs w => ?_)
    refine lv_aload_n hx hb dX12_back_24 rfl (lv_at hl 0 rfl) ?_
    refine f_12_8 F w (a := 146) rfl tb_587 dX12_back_25 ?_
    refine r_val (v := zI z5) (st_at) ?_
    rw [hQ]
    exact e_i F w hr hlocks ⟨_, rfl, ⟨by omega, by omega⟩, ⟨z5, (st_at), ⟨by omega, by omega⟩, (by omega)⟩, (IvR.to hI (a := 146) (k := 8) (x := z5) (show ivr 146 8 = (0, 300) from rfl) ⟨by omega, by omega⟩ ⟨by decide, by decide, by decide, fun q9 => absurd q9 (by decide)⟩), (Fr.to hF (by first | decide | (dsimp only; first | done | decide | omega) | omega))⟩ dX12_back_28
  · refine lv_iconst (v := zI (-1)) hx hb dX12_back_12 rfl ?_
    rw [hQ]
    exact e_i F w hr hlocks ⟨_, rfl, ⟨by omega, by omega⟩, ⟨ts, (hgts), ⟨by omega, by omega⟩, (by omega)⟩, hI, hF⟩ dX12_back_13
set_option maxRecDepth 4000 in
theorem x_X12_word {l : Launch} {D : va_G} {B : Nat} {cy : Nat → ClassId} {M : Mem} {ts : Int} (hgts : M.1 146 8 = zI ts) (hts : 0 ≤ ts ∧ ts ≤ 300) (hI : IvR M) : Ci l D B cy yX12_word cX12_word 2 (some .int) 4 88 [.ref (B + 146)] M (fun r M1 => ∃ z : Int, r = zI z ∧ ((-304) ≤ z ∧ z ≤ 12) ∧ (∃ ts2 : Int, M1.1 146 8 = zI ts2 ∧ ((0 ≤ ts2 ∧ ts2 ≤ 300) ∧ ts2 = 0)) ∧ IvR M1 ∧ Fr (fun b9 k9 => (b9 = 146 ∧ k9 = 11) ∨ (b9 = 146 ∧ k9 = 20) ∨ (b9 = 146 ∧ k9 = 8) ∨ (b9 = 146 ∧ k9 = 9) ∨ b9 = 147 ∨ b9 = 151) M1 M) := by
  refine s_anyQ (by decide) (Nat.le_of_ble_eq_true rfl) ?_
  intro p e s m args below meth c ls Q F hr hlocks hQ w hl
  have F : CallFix p m c cX12_word 2 s args TB RX12 := F
  have hx := F.1
  have hb := F.2.1
  have hl : lv_has ls 2 [(0, .ref (B + 146))] := hl
  have hF : Fr (fun b9 k9 => (b9 = 146 ∧ k9 = 11) ∨ (b9 = 146 ∧ k9 = 20) ∨ (b9 = 146 ∧ k9 = 8) ∨ (b9 = 146 ∧ k9 = 9) ∨ b9 = 147 ∨ b9 = 151) M M := Fr.rf
  refine lv_iconst (v := zI 0) hx hb dX12_word_0 rfl ?_
  refine lv_istore_n (lv' := [(1, .int (zI 0)), (0, .ref (B + 146))]) hx hb dX12_word_1 rfl hl (by decide) rfl (fun ls hl => ?_)
  have lp2 : ∀ (f : Nat) (v1_2 : Int)  (NL2 : Mem), (0 ≤ v1_2 ∧ v1_2 ≤ 63) → NL2.1 146 8 = zI ts → IvR NL2 → Fr (fun b9 k9 => (b9 = 146 ∧ k9 = 11) ∨ (b9 = 146 ∧ k9 = 20) ∨ (b9 = 146 ∧ k9 = 8) ∨ (b9 = 146 ∧ k9 = 9) ∨ b9 = 147 ∨ b9 = 151) NL2 M → (Int.toNat (28 - v1_2) < f) → ∀ (H : Heap) (locs : List Loc) (ls : Array Slot), Wd D B cy s s.heap NL2 H locs → lv_has ls 2 [(1, .int (zI v1_2)), (0, .ref (B + 146))] → W p l e (rmm 4 88) s m args below meth c H locs 0 0 Q (F0 m 2 ls []) := by
    intro f
    induction f with
    | zero => intros; omega
    | succ f ih2 =>
      intro v1_2  NL2 iv1_2 eg146_8_2 hIL2 hFL2 hf2 H locs ls w hl
      refine lv_iload_n hx hb dX12_word_2 rfl (lv_at hl 0 rfl) ?_
      refine lv_bipush (v := zI 28) hx hb dX12_word_3 (by decide) ?_
      refine z_icmp_ge (tgt := 21) hx hb (by omega) (by omega) dX12_word_5 (by decide) (fun c1 => ?_) (fun c1 => ?_)
      · refine lv_aload_n hx hb dX12_word_21 rfl (lv_at hl 1 rfl) ?_
        refine lv_iconst (v := zI 0) hx hb dX12_word_22 rfl ?_
        refine u_12_9 F w (a := 146) rfl tb_586 dX12_word_23 (fun H locs w => ?_)
        refine lv_aload_n hx hb dX12_word_26 rfl (lv_at hl 1 rfl) ?_
        refine k_Vi F w (As := []) (rest := []) (a := 146) (kd_lt (a := 146) (show kd 146 = (12, 0, 0) from rfl) (by decide)) (sh_12 rfl _ _) rfl (q_X12_readsTones   (IvR.to hIL2 (a := 146) (k := 9) (x := 0) (show ivr 146 9 = (0, 300) from rfl) ⟨by omega, by omega⟩ ⟨by decide, by decide, by decide, fun q9 => absurd q9 (by decide)⟩)) gv_X12_191 hv_X12_readsTones ⟨(Nat.le_of_ble_eq_true rfl), (Nat.le_of_ble_eq_true rfl)⟩ hl.1 rfl (Nat.le_of_ble_eq_true rfl) ⟨Nat.zero_le _, Nat.zero_le _⟩ dX12_word_27 (fun r2 N3 H locs hp w => ?_)
        obtain ⟨z4, rfl, bz4, hIN3, hFN3⟩ := hp
        have hGN3 := Fr.tr (Fr.to hFL2 (by first | decide | (dsimp only; first | done | decide | omega) | omega)) hFN3 (S := (fun b9 k9 => (b9 = 146 ∧ k9 = 11) ∨ (b9 = 146 ∧ k9 = 20) ∨ (b9 = 146 ∧ k9 = 8) ∨ (b9 = 146 ∧ k9 = 9) ∨ b9 = 147 ∨ b9 = 151)) (fun b k h => by (try dsimp only at h ⊢); rcases h with ⟨rfl, rfl⟩ | rfl <;> first | decide | omega)
        have kn5 : N3.1 146 8 = zI ts := (hFN3 146 8 (by first | decide | (dsimp only; first | done | decide | omega) | omega)).trans ((st_ne (Or.inr (by decide))).trans eg146_8_2)
        refine z_if_eq (tgt := 51) hx hb (by omega) dX12_word_30 (by decide) (fun c6 => ?_) (fun c6 => ?_)
        · refine lv_iconst (v := zI 0) hx hb dX12_word_51 rfl ?_
          refine lv_istore_n (lv' := [(1, .int (zI 0)), (0, .ref (B + 146))]) hx hb dX12_word_52 rfl hl (by decide) rfl (fun ls hl => ?_)
          refine lv_aload_n hx hb dX12_word_53 rfl (lv_at hl 1 rfl) ?_
          refine lv_iconst (v := zI 0) hx hb dX12_word_54 rfl ?_
          refine u_12_8 F w (a := 146) rfl tb_587 dX12_word_55 (fun H locs w => ?_)
          refine lv_iload_n hx hb dX12_word_58 rfl (lv_at hl 0 rfl) ?_
          refine z_if_ne (tgt := 70) hx hb (by omega) dX12_word_59 (by decide) (fun c7 => False.elim (by omega)) (fun c7 => ?_)
          refine lv_bipush (v := zI (-4)) hx hb dX12_word_62 (by decide) ?_
          refine lv_aload_n hx hb dX12_word_64 rfl (lv_at hl 1 rfl) ?_
          refine f_12_9 F w (a := 146) rfl tb_586 dX12_word_65 ?_
          obtain ⟨z8, bz8, ez8⟩ := IvR.ld (k := 9) (IvR.to hIN3 (a := 146) (k := 8) (x := 0) (show ivr 146 8 = (0, 300) from rfl) ⟨by omega, by omega⟩ ⟨by decide, by decide, by decide, fun q9 => absurd q9 (by decide)⟩) (show ivr 146 9 = (0, 300) from rfl) (show 146 ≤ 146 ∧ 146 < 159 by decide)
          refine r_val ez8 ?_
          refine z_isub (z := ((-4) - z8)) hx hb dX12_word_68 (by omega) ?_
          rw [hQ]
          exact e_i F w hr hlocks ⟨_, rfl, ⟨by omega, by omega⟩, ⟨0, (st_at), ⟨by omega, by omega⟩, (by omega)⟩, (IvR.to hIN3 (a := 146) (k := 8) (x := 0) (show ivr 146 8 = (0, 300) from rfl) ⟨by omega, by omega⟩ ⟨by decide, by decide, by decide, fun q9 => absurd q9 (by decide)⟩), (Fr.to hGN3 (by first | decide | (dsimp only; first | done | decide | omega) | omega))⟩ dX12_word_69
        · refine lv_aload_n hx hb dX12_word_33 rfl (lv_at hl 1 rfl) ?_
          refine k_Vi F w (As := []) (rest := []) (a := 146) (kd_lt (a := 146) (show kd 146 = (12, 0, 0) from rfl) (by decide)) (sh_12 rfl _ _) rfl (q_X12_readsSyllables   hIN3) gv_X12_195 hv_X12_readsSyllables ⟨(Nat.le_of_ble_eq_true rfl), (Nat.le_of_ble_eq_true rfl)⟩ hl.1 rfl (Nat.le_of_ble_eq_true rfl) ⟨Nat.zero_le _, Nat.zero_le _⟩ dX12_word_34 (fun r9 N10 H locs hp w => ?_)
          obtain ⟨z11, rfl, bz11, hIN10, hFN10⟩ := hp
          have hGN10 := Fr.tr hGN3 hFN10 (S := (fun b9 k9 => (b9 = 146 ∧ k9 = 11) ∨ (b9 = 146 ∧ k9 = 20) ∨ (b9 = 146 ∧ k9 = 8) ∨ (b9 = 146 ∧ k9 = 9) ∨ b9 = 147 ∨ b9 = 151)) (fun b k h => by (try dsimp only at h ⊢); rcases h with ⟨rfl, rfl⟩ | ⟨rfl, q1, q2⟩ | ⟨rfl, q1, q2⟩ | ⟨rfl, q1, q2⟩ <;> first | decide | omega)
          have kn12 : N10.1 146 8 = zI ts := (hFN10 146 8 (by first | decide | (dsimp only; first | done | decide | omega) | omega)).trans (kn5)
          refine z_if_eq (tgt := 51) hx hb (by omega) dX12_word_37 (by decide) (fun c13 => ?_) (fun c13 => ?_)
          · refine lv_iconst (v := zI 0) hx hb dX12_word_51 rfl ?_
            refine lv_istore_n (lv' := [(1, .int (zI 0)), (0, .ref (B + 146))]) hx hb dX12_word_52 rfl hl (by decide) rfl (fun ls hl => ?_)
            refine lv_aload_n hx hb dX12_word_53 rfl (lv_at hl 1 rfl) ?_
            refine lv_iconst (v := zI 0) hx hb dX12_word_54 rfl ?_
            refine u_12_8 F w (a := 146) rfl tb_587 dX12_word_55 (fun H locs w => ?_)
            refine lv_iload_n hx hb dX12_word_58 rfl (lv_at hl 0 rfl) ?_
            refine z_if_ne (tgt := 70) hx hb (by omega) dX12_word_59 (by decide) (fun c14 => False.elim (by omega)) (fun c14 => ?_)
            refine lv_bipush (v := zI (-4)) hx hb dX12_word_62 (by decide) ?_
            refine lv_aload_n hx hb dX12_word_64 rfl (lv_at hl 1 rfl) ?_
            refine f_12_9 F w (a := 146) rfl tb_586 dX12_word_65 ?_
            obtain ⟨z15, bz15, ez15⟩ := IvR.ld (k := 9) (IvR.to hIN10 (a := 146) (k := 8) (x := 0) (show ivr 146 8 = (0, 300) from rfl) ⟨by omega, by omega⟩ ⟨by decide, by decide, by decide, fun q9 => absurd q9 (by decide)⟩) (show ivr 146 9 = (0, 300) from rfl) (show 146 ≤ 146 ∧ 146 < 159 by decide)
            refine r_val ez15 ?_
            refine z_isub (z := ((-4) - z15)) hx hb dX12_word_68 (by omega) ?_
            rw [hQ]
            exact e_i F w hr hlocks ⟨_, rfl, ⟨by omega, by omega⟩, ⟨0, (st_at), ⟨by omega, by omega⟩, (by omega)⟩, (IvR.to hIN10 (a := 146) (k := 8) (x := 0) (show ivr 146 8 = (0, 300) from rfl) ⟨by omega, by omega⟩ ⟨by decide, by decide, by decide, fun q9 => absurd q9 (by decide)⟩), (Fr.to hGN10 (by first | decide | (dsimp only; first | done | decide | omega) | omega))⟩ dX12_word_69
          · refine lv_aload_n hx hb dX12_word_40 rfl (lv_at hl 1 rfl) ?_
            refine k_Vi F w (As := []) (rest := []) (a := 146) (kd_lt (a := 146) (show kd 146 = (12, 0, 0) from rfl) (by decide)) (sh_12 rfl _ _) rfl (q_X12_readsLines   hIN10) gv_X12_198 hv_X12_readsLines ⟨(Nat.le_of_ble_eq_true rfl), (Nat.le_of_ble_eq_true rfl)⟩ hl.1 rfl (Nat.le_of_ble_eq_true rfl) ⟨Nat.zero_le _, Nat.zero_le _⟩ dX12_word_41 (fun r16 N17 H locs hp w => ?_)
            obtain ⟨z18, rfl, bz18, hIN17, hFN17⟩ := hp
            have hGN17 := Fr.tr hGN10 hFN17 (S := (fun b9 k9 => (b9 = 146 ∧ k9 = 11) ∨ (b9 = 146 ∧ k9 = 20) ∨ (b9 = 146 ∧ k9 = 8) ∨ (b9 = 146 ∧ k9 = 9) ∨ b9 = 147 ∨ b9 = 151)) (fun b k h => by (try dsimp only at h ⊢); rcases h with ⟨rfl, rfl⟩ | ⟨rfl, rfl⟩ | ⟨rfl, q1, q2⟩ <;> first | decide | omega)
            have kn19 : N17.1 146 8 = zI ts := (hFN17 146 8 (by first | decide | (dsimp only; first | done | decide | omega) | omega)).trans (kn12)
            refine z_if_eq (tgt := 51) hx hb (by omega) dX12_word_44 (by decide) (fun c20 => ?_) (fun c20 => ?_)
            · refine lv_iconst (v := zI 0) hx hb dX12_word_51 rfl ?_
              refine lv_istore_n (lv' := [(1, .int (zI 0)), (0, .ref (B + 146))]) hx hb dX12_word_52 rfl hl (by decide) rfl (fun ls hl => ?_)
              refine lv_aload_n hx hb dX12_word_53 rfl (lv_at hl 1 rfl) ?_
              refine lv_iconst (v := zI 0) hx hb dX12_word_54 rfl ?_
              refine u_12_8 F w (a := 146) rfl tb_587 dX12_word_55 (fun H locs w => ?_)
              refine lv_iload_n hx hb dX12_word_58 rfl (lv_at hl 0 rfl) ?_
              refine z_if_ne (tgt := 70) hx hb (by omega) dX12_word_59 (by decide) (fun c21 => False.elim (by omega)) (fun c21 => ?_)
              refine lv_bipush (v := zI (-4)) hx hb dX12_word_62 (by decide) ?_
              refine lv_aload_n hx hb dX12_word_64 rfl (lv_at hl 1 rfl) ?_
              refine f_12_9 F w (a := 146) rfl tb_586 dX12_word_65 ?_
              obtain ⟨z22, bz22, ez22⟩ := IvR.ld (k := 9) (IvR.to hIN17 (a := 146) (k := 8) (x := 0) (show ivr 146 8 = (0, 300) from rfl) ⟨by omega, by omega⟩ ⟨by decide, by decide, by decide, fun q9 => absurd q9 (by decide)⟩) (show ivr 146 9 = (0, 300) from rfl) (show 146 ≤ 146 ∧ 146 < 159 by decide)
              refine r_val ez22 ?_
              refine z_isub (z := ((-4) - z22)) hx hb dX12_word_68 (by omega) ?_
              rw [hQ]
              exact e_i F w hr hlocks ⟨_, rfl, ⟨by omega, by omega⟩, ⟨0, (st_at), ⟨by omega, by omega⟩, (by omega)⟩, (IvR.to hIN17 (a := 146) (k := 8) (x := 0) (show ivr 146 8 = (0, 300) from rfl) ⟨by omega, by omega⟩ ⟨by decide, by decide, by decide, fun q9 => absurd q9 (by decide)⟩), (Fr.to hGN17 (by first | decide | (dsimp only; first | done | decide | omega) | omega))⟩ dX12_word_69
            · refine lv_iconst (v := zI 1) hx hb dX12_word_47 rfl ?_
              refine lv_goto (tgt := 52) hx hb dX12_word_48 (by decide) ?_
              refine lv_istore_n (lv' := [(1, .int (zI 1)), (0, .ref (B + 146))]) hx hb dX12_word_52 rfl hl (by decide) rfl (fun ls hl => ?_)
              refine lv_aload_n hx hb dX12_word_53 rfl (lv_at hl 1 rfl) ?_
              refine lv_iconst (v := zI 0) hx hb dX12_word_54 rfl ?_
              refine u_12_8 F w (a := 146) rfl tb_587 dX12_word_55 (fun H locs w => ?_)
              refine lv_iload_n hx hb dX12_word_58 rfl (lv_at hl 0 rfl) ?_
              refine z_if_ne (tgt := 70) hx hb (by omega) dX12_word_59 (by decide) (fun c23 => ?_) (fun c23 => False.elim (by omega))
              refine lv_aload_n hx hb dX12_word_70 rfl (lv_at hl 1 rfl) ?_
              refine f_12_1 F w (a := 146) rfl tb_580 dX12_word_71 ?_
              refine lv_aload_n hx hb dX12_word_74 rfl (lv_at hl 1 rfl) ?_
              refine f_12_10 F w (a := 146) rfl tb_595 dX12_word_75 ?_
              obtain ⟨z24, bz24, ez24⟩ := IvR.ld (k := 0) hIN17 (show ivr 151 0 = (0, 12) from rfl) (show 146 ≤ 151 ∧ 151 < 159 by decide)
              refine k_Sv F w (As := [.ref (B + 147), .ref (B + 151)]) (rest := []) (q_copy_147_151 (nn := z24) ((st_ne (Or.inl (by decide))).trans ez24) ⟨by omega, by omega⟩  (IvR.to hIN17 (a := 146) (k := 8) (x := 0) (show ivr 146 8 = (0, 300) from rfl) ⟨by omega, by omega⟩ ⟨by decide, by decide, by decide, fun q9 => absurd q9 (by decide)⟩)) gs_X12_162 hs_X12_copy ⟨(Nat.le_of_ble_eq_true rfl), (Nat.le_of_ble_eq_true rfl)⟩ hl.1 rfl (Nat.le_of_ble_eq_true rfl) ⟨Nat.zero_le _, Nat.zero_le _⟩ dX12_word_78 (fun N26 H locs hp w => ?_)
              obtain ⟨yN26_147_0, hIN26, hFN26⟩ := hp
              have hGN26 := Fr.tr (Fr.to hGN17 (by first | decide | (dsimp only; first | done | decide | omega) | omega)) hFN26 (S := (fun b9 k9 => (b9 = 146 ∧ k9 = 11) ∨ (b9 = 146 ∧ k9 = 20) ∨ (b9 = 146 ∧ k9 = 8) ∨ (b9 = 146 ∧ k9 = 9) ∨ b9 = 147 ∨ b9 = 151)) (fun b k h => by (try dsimp only at h ⊢); rcases h with rfl <;> first | decide | omega)
              have kn28 : N26.1 146 8 = zI 0 := (hFN26 146 8 (by first | decide | (dsimp only; first | done | decide | omega) | omega)).trans (st_at)
              have kn29 : N26.1 151 0 = zI z24 := (hFN26 151 0 (by first | decide | (dsimp only; first | done | decide | omega) | omega)).trans ((st_ne (Or.inl (by decide))).trans ez24)
              refine lv_aload_n hx hb dX12_word_81 rfl (lv_at hl 1 rfl) ?_
              refine lv_iconst (v := zI 0) hx hb dX12_word_82 rfl ?_
              refine u_12_20 F w (a := 146) rfl tb_650 dX12_word_83 (fun H locs w => ?_)
              refine lv_aload_n hx hb dX12_word_86 rfl (lv_at hl 1 rfl) ?_
              refine f_12_1 F w (a := 146) rfl tb_580 dX12_word_87 ?_
              refine lv_iconst (v := zI 0) hx hb dX12_word_90 rfl ?_
              refine g_iald F w (a := 147) rfl (j := 0) ⟨by decide, by decide⟩ (by omega) dX12_word_91 ?_
              refine r_val (v := zI z24) ((st_ne (Or.inl (by decide))).trans yN26_147_0) ?_
              rw [hQ]
              exact e_i F w hr hlocks ⟨_, rfl, ⟨by omega, by omega⟩, ⟨0, ((st_ne (Or.inr (by decide))).trans kn28), ⟨by omega, by omega⟩, (by omega)⟩, (IvR.to hIN26 (a := 146) (k := 20) (x := 0) (show ivr 146 20 = (0, 12) from rfl) ⟨by omega, by omega⟩ ⟨by decide, by decide, by decide, fun q9 => absurd q9 (by decide)⟩), (Fr.to hGN26 (by first | decide | (dsimp only; first | done | decide | omega) | omega))⟩ dX12_word_92
      · refine lv_aload_n hx hb dX12_word_8 rfl (lv_at hl 1 rfl) ?_
        refine f_12_10 F w (a := 146) rfl tb_595 dX12_word_9 ?_
        refine lv_iload_n hx hb dX12_word_12 rfl (lv_at hl 0 rfl) ?_
        refine lv_iconst (v := zI 0) hx hb dX12_word_13 rfl ?_
        refine g_iast F w (a := 151) rfl (j := (Int.toNat v1_2)) (ix_z (by omega) (by omega)) (by omega) dX12_word_14 (fun H locs w => ?_)
        refine z_iinc (v := (v1_2 + 1)) (lv' := [(1, .int (zI (v1_2 + 1))), (0, .ref (B + 146))]) hx hb dX12_word_15 hl (k := 0) rfl (by omega) (by decide) rfl (fun ls hl => ?_)
        refine lv_goto (tgt := 2) hx hb dX12_word_18 (by decide) ?_
        exact ih2 (v1_2 + 1) (st NL2 151 (Int.toNat v1_2) (zI 0)) (by omega)  ((st_ne (Or.inl (by decide))).trans eg146_8_2)  (IvR.to0 hIL2 (a := 151) (k := (Int.toNat v1_2)) (by omega)) (Fr.to hFL2 (by first | decide | (dsimp only; first | done | decide | omega) | omega)) (by omega) _ _ _ w (lv_sub hl [0, 1] rfl)
  exact lp2 _ 0 M (by omega) (hgts) hI hF (Nat.lt_succ_self _) _ _ _ w (lv_sub hl [0, 1] rfl)
set_option maxRecDepth 4000 in
theorem x_X12_rules {l : Launch} {D : va_G} {B : Nat} {cy : Nat → ClassId} {M : Mem} {ts : Int} (hgts : M.1 146 8 = zI ts) (hts : 0 ≤ ts ∧ ts ≤ 300) (hI : IvR M) : Ci l D B cy yX12_rules cX12_rules 3 (some .int) 6 130 [.ref (B + 146)] M (fun r M1 => ∃ z : Int, r = zI z ∧ ((-2147483648) ≤ z ∧ z ≤ 2147483647) ∧ (∃ ts2 : Int, M1.1 146 8 = zI ts2 ∧ ((0 ≤ ts2 ∧ ts2 ≤ 300) ∧ ts2 = 0)) ∧ IvR M1 ∧ Fr (fun b9 k9 => (b9 = 146 ∧ k9 = 11) ∨ (b9 = 146 ∧ k9 = 13) ∨ (b9 = 146 ∧ k9 = 14) ∨ (b9 = 146 ∧ k9 = 15) ∨ (b9 = 146 ∧ k9 = 16) ∨ (b9 = 146 ∧ k9 = 5) ∨ (b9 = 146 ∧ k9 = 8) ∨ (b9 = 146 ∧ k9 = 9) ∨ b9 = 149 ∨ b9 = 153 ∨ b9 = 154) M1 M) := by
  refine s_anyQ (by decide) (Nat.le_of_ble_eq_true rfl) ?_
  intro p e s m args below meth c ls Q F hr hlocks hQ w hl
  have F : CallFix p m c cX12_rules 3 s args TB RX12 := F
  have hx := F.1
  have hb := F.2.1
  have hl : lv_has ls 3 [(0, .ref (B + 146))] := hl
  have hF : Fr (fun b9 k9 => (b9 = 146 ∧ k9 = 11) ∨ (b9 = 146 ∧ k9 = 13) ∨ (b9 = 146 ∧ k9 = 14) ∨ (b9 = 146 ∧ k9 = 15) ∨ (b9 = 146 ∧ k9 = 16) ∨ (b9 = 146 ∧ k9 = 5) ∨ (b9 = 146 ∧ k9 = 8) ∨ (b9 = 146 ∧ k9 = 9) ∨ b9 = 149 ∨ b9 = 153 ∨ b9 = 154) M M := Fr.rf
  refine lv_aload_n hx hb dX12_rules_0 rfl (lv_at hl 0 rfl) ?_
  refine lv_iconst (v := zI 0) hx hb dX12_rules_1 rfl ?_
  refine u_12_9 F w (a := 146) rfl tb_586 dX12_rules_2 (fun H locs w => ?_)
  refine lv_aload_n hx hb dX12_rules_5 rfl (lv_at hl 0 rfl) ?_
  refine lv_iconst (v := zI 3) hx hb dX12_rules_6 rfl ?_
  refine u_12_13 F w (a := 146) rfl tb_602 dX12_rules_7 (fun H locs w => ?_)
  refine lv_aload_n hx hb dX12_rules_10 rfl (lv_at hl 0 rfl) ?_
  refine lv_iconst (v := zI 0) hx hb dX12_rules_11 rfl ?_
  refine u_12_16 F w (a := 146) rfl (nar_z (by omega)) (fit_z (by omega)) tb_669 dX12_rules_12 (fun H locs w => ?_)
  refine lv_iconst (v := zI 0) hx hb dX12_rules_15 rfl ?_
  refine lv_istore_n (lv' := [(1, .int (zI 0)), (0, .ref (B + 146))]) hx hb dX12_rules_16 rfl hl (by decide) rfl (fun ls hl => ?_)
  refine lv_aload_n hx hb dX12_rules_17 rfl (lv_at hl 1 rfl) ?_
  refine k_Vv F w (As := []) (rest := []) (a := 146) (kd_lt (a := 146) (show kd 146 = (12, 0, 0) from rfl) (by decide)) (sh_12 rfl _ _) rfl (q_X12_goesOn   (IvR.to (IvR.to (IvR.to hI (a := 146) (k := 9) (x := 0) (show ivr 146 9 = (0, 300) from rfl) ⟨by omega, by omega⟩ ⟨by decide, by decide, by decide, fun q9 => absurd q9 (by decide)⟩) (a := 146) (k := 13) (x := 3) (show ivr 146 13 = ((-2147483648), 2147483647) from rfl) ⟨by omega, by omega⟩ ⟨by decide, by decide, by decide, fun q9 => absurd q9 (by decide)⟩) (a := 146) (k := 16) (x := 0) (show ivr 146 16 = (0, 1) from rfl) ⟨by omega, by omega⟩ ⟨by decide, by decide, by decide, fun q9 => absurd q9 (by decide)⟩)) gv_X12_221 hv_X12_goesOn ⟨(Nat.le_of_ble_eq_true rfl), (Nat.le_of_ble_eq_true rfl)⟩ hl.1 rfl (Nat.le_of_ble_eq_true rfl) ⟨Nat.zero_le _, Nat.zero_le _⟩ dX12_rules_18 (fun N2 H locs hp w => ?_)
  obtain ⟨⟨nz30, nz31, enz30, enz31, xz3⟩, hIN2, hFN2⟩ := hp
  have hGN2 := Fr.tr (Fr.to (Fr.to (Fr.to hF (by first | decide | (dsimp only; first | done | decide | omega) | omega)) (by first | decide | (dsimp only; first | done | decide | omega) | omega)) (by first | decide | (dsimp only; first | done | decide | omega) | omega)) hFN2 (S := (fun b9 k9 => (b9 = 146 ∧ k9 = 11) ∨ (b9 = 146 ∧ k9 = 13) ∨ (b9 = 146 ∧ k9 = 14) ∨ (b9 = 146 ∧ k9 = 15) ∨ (b9 = 146 ∧ k9 = 16) ∨ (b9 = 146 ∧ k9 = 5) ∨ (b9 = 146 ∧ k9 = 8) ∨ (b9 = 146 ∧ k9 = 9) ∨ b9 = 149 ∨ b9 = 153 ∨ b9 = 154)) (fun b k h => by (try dsimp only at h ⊢); rcases h with ⟨rfl, rfl⟩ | ⟨rfl, rfl⟩ | ⟨rfl, rfl⟩ | ⟨rfl, rfl⟩ | ⟨rfl, rfl⟩ <;> first | decide | omega)
  have kn4 : N2.1 146 8 = zI ts := (hFN2 146 8 (by first | decide | (dsimp only; first | done | decide | omega) | omega)).trans ((st_ne (Or.inr (by decide))).trans ((st_ne (Or.inr (by decide))).trans ((st_ne (Or.inr (by decide))).trans hgts)))
  have kn5 : N2.1 146 16 = zI 0 := (hFN2 146 16 (by first | decide | (dsimp only; first | done | decide | omega) | omega)).trans (st_at)
  have hKN2 : ∀ k9, N2.1 149 k9 = M.1 149 k9 := fun k9 => (hFN2 149 k9 (by first | decide | (dsimp only; first | done | decide | omega) | omega)).trans (rfl)
  have lp21 : ∀ (f : Nat) (v1_21 : Int) (g146_16_21 : Int) (g146_13_21 : Int) (g146_11_21 : Int) (NL21 : Mem), (0 ≤ v1_21 ∧ v1_21 ≤ 8) → (0 ≤ g146_16_21 ∧ g146_16_21 ≤ 1) → ((-2147483648) ≤ g146_13_21 ∧ g146_13_21 ≤ 2147483647) → ((-99) ≤ g146_11_21 ∧ g146_11_21 ≤ 300) → NL21.1 146 16 = zI g146_16_21 → NL21.1 146 13 = zI g146_13_21 → NL21.1 146 11 = zI g146_11_21 → NL21.1 146 8 = zI ts → (g146_16_21 ≠ 0 ∨ ∀ r : Nat, (r : Int) < v1_21 → RKr (NL21.1 154) (8 * r)) → ((g146_13_21 ≠ 2 ∨ 0 ≤ g146_11_21)) → (∀ k9, NL21.1 149 k9 = M.1 149 k9) → IvR NL21 → Fr (fun b9 k9 => (b9 = 146 ∧ k9 = 11) ∨ (b9 = 146 ∧ k9 = 13) ∨ (b9 = 146 ∧ k9 = 14) ∨ (b9 = 146 ∧ k9 = 15) ∨ (b9 = 146 ∧ k9 = 16) ∨ (b9 = 146 ∧ k9 = 5) ∨ (b9 = 146 ∧ k9 = 8) ∨ (b9 = 146 ∧ k9 = 9) ∨ b9 = 149 ∨ b9 = 153 ∨ b9 = 154) NL21 M → (Int.toNat (20 - 2 * v1_21 - g146_16_21) < f) → ∀ (H : Heap) (locs : List Loc) (ls : Array Slot), Wd D B cy s s.heap NL21 H locs → lv_has ls 3 [(1, .int (zI v1_21)), (0, .ref (B + 146))] → W p l e (rmm 6 130) s m args below meth c H locs 0 0 Q (F0 m 21 ls []) := by
    intro f
    induction f with
    | zero => intros; omega
    | succ f ih21 =>
      intro v1_21 g146_16_21 g146_13_21 g146_11_21 NL21 iv1_21 ig146_16_21 ig146_13_21 ig146_11_21 eg146_16_21 eg146_13_21 eg146_11_21 eg146_8_21 y21_0 y21_1 y21_2 hIL21 hFL21 hf21 H locs ls w hl
      refine lv_aload_n hx hb dX12_rules_21 rfl (lv_at hl 1 rfl) ?_
      refine f_12_16 F w (a := 146) rfl tb_669 dX12_rules_22 ?_
      refine r_val (v := zI g146_16_21) (eg146_16_21) ?_
      refine z_if_ne (tgt := 97) hx hb (by omega) dX12_rules_25 (by decide) (fun c6 => ?_) (fun c6 => ?_)
      · refine lv_aload_n hx hb dX12_rules_97 rfl (lv_at hl 1 rfl) ?_
        refine lv_iconst (v := zI 0) hx hb dX12_rules_98 rfl ?_
        refine u_12_8 F w (a := 146) rfl tb_587 dX12_rules_99 (fun H locs w => ?_)
        refine lv_aload_n hx hb dX12_rules_102 rfl (lv_at hl 1 rfl) ?_
        refine f_12_16 F w (a := 146) rfl tb_669 dX12_rules_103 ?_
        refine r_val (v := zI g146_16_21) ((st_ne (Or.inr (by decide))).trans eg146_16_21) ?_
        refine z_if_eq (tgt := 117) hx hb (by omega) dX12_rules_106 (by decide) (fun c7 => False.elim (by omega)) (fun c7 => ?_)
        refine lv_bipush (v := zI (-4)) hx hb dX12_rules_109 (by decide) ?_
        refine lv_aload_n hx hb dX12_rules_111 rfl (lv_at hl 1 rfl) ?_
        refine f_12_14 F w (a := 146) rfl tb_665 dX12_rules_112 ?_
        obtain ⟨z8, bz8, ez8⟩ := IvR.ld (k := 14) (IvR.to hIL21 (a := 146) (k := 8) (x := 0) (show ivr 146 8 = (0, 300) from rfl) ⟨by omega, by omega⟩ ⟨by decide, by decide, by decide, fun q9 => absurd q9 (by decide)⟩) (show ivr 146 14 = ((-2147483648), 2147483647) from rfl) (show 146 ≤ 146 ∧ 146 < 159 by decide)
        refine r_val ez8 ?_
        obtain ⟨z9, bz9, x0z9, ez9⟩ := sub_ex (-4) z8
        refine lv_isub hx hb dX12_rules_115 ?_
        refine r_val ez9 ?_
        rw [hQ]
        exact e_i F w hr hlocks ⟨_, rfl, ⟨by omega, by omega⟩, ⟨0, (st_at), ⟨by omega, by omega⟩, (by omega)⟩, (IvR.to hIL21 (a := 146) (k := 8) (x := 0) (show ivr 146 8 = (0, 300) from rfl) ⟨by omega, by omega⟩ ⟨by decide, by decide, by decide, fun q9 => absurd q9 (by decide)⟩), (Fr.to hFL21 (by first | decide | (dsimp only; first | done | decide | omega) | omega))⟩ dX12_rules_116
      · refine lv_aload_n hx hb dX12_rules_28 rfl (lv_at hl 1 rfl) ?_
        refine f_12_13 F w (a := 146) rfl tb_602 dX12_rules_29 ?_
        refine r_val (v := zI g146_13_21) (eg146_13_21) ?_
        refine z_if_eq (tgt := 97) hx hb (by omega) dX12_rules_32 (by decide) (fun c10 => ?_) (fun c10 => ?_)
        · refine lv_aload_n hx hb dX12_rules_97 rfl (lv_at hl 1 rfl) ?_
          refine lv_iconst (v := zI 0) hx hb dX12_rules_98 rfl ?_
          refine u_12_8 F w (a := 146) rfl tb_587 dX12_rules_99 (fun H locs w => ?_)
          refine lv_aload_n hx hb dX12_rules_102 rfl (lv_at hl 1 rfl) ?_
          refine f_12_16 F w (a := 146) rfl tb_669 dX12_rules_103 ?_
          refine r_val (v := zI g146_16_21) ((st_ne (Or.inr (by decide))).trans eg146_16_21) ?_
          refine z_if_eq (tgt := 117) hx hb (by omega) dX12_rules_106 (by decide) (fun c11 => ?_) (fun c11 => False.elim (by omega))
          refine lv_iconst (v := zI 0) hx hb dX12_rules_117 rfl ?_
          have hK21 : ∀ k9, (Prod.fst (st NL21 146 8 (zI 0))) 149 k9 = M.1 149 k9 := fun k9 => ((st_ne (Or.inl (by decide))).trans (y21_2 k9))
          refine lv_istore_n (lv' := [(2, .int (zI 0)), (1, .int (zI v1_21)), (0, .ref (B + 146))]) hx hb dX12_rules_118 rfl hl (by decide) rfl (fun ls hl => ?_)
          have hRK9 : ∀ r : Nat, (r : Int) < v1_21 → RKr ((Prod.fst (st NL21 146 8 (zI 0))) 154) (8 * r) := y21_0.resolve_left (by omega)
          have hIN12 : IvB (st NL21 146 8 (zI 0)) := IvR.b (IvR.to hIL21 (a := 146) (k := 8) (x := 0) (show ivr 146 8 = (0, 300) from rfl) ⟨by omega, by omega⟩ ⟨by decide, by decide, by decide, fun q9 => absurd q9 (by decide)⟩)
          have hFN12 : Fr (fun b9 k9 => (b9 = 146 ∧ k9 = 11) ∨ (b9 = 146 ∧ k9 = 13) ∨ (b9 = 146 ∧ k9 = 14) ∨ (b9 = 146 ∧ k9 = 15) ∨ (b9 = 146 ∧ k9 = 16) ∨ (b9 = 146 ∧ k9 = 5) ∨ (b9 = 146 ∧ k9 = 8) ∨ (b9 = 146 ∧ k9 = 9) ∨ b9 = 149 ∨ b9 = 153 ∨ b9 = 154) (st NL21 146 8 (zI 0)) M := (Fr.to hFL21 (by first | decide | (dsimp only; first | done | decide | omega) | omega))
          have hK9 : ∀ k9, (Prod.fst (st NL21 146 8 (zI 0))) 149 k9 = M.1 149 k9 := hK21
          have kn13 : (Prod.fst (st NL21 146 8 (zI 0))) 146 16 = zI g146_16_21 := (st_ne (Or.inr (by decide))).trans eg146_16_21
          have kn14 : (Prod.fst (st NL21 146 8 (zI 0))) 146 13 = zI g146_13_21 := (st_ne (Or.inr (by decide))).trans eg146_13_21
          have kn15 : (Prod.fst (st NL21 146 8 (zI 0))) 146 11 = zI g146_11_21 := (st_ne (Or.inr (by decide))).trans eg146_11_21
          have kn16 : (Prod.fst (st NL21 146 8 (zI 0))) 146 8 = zI 0 := st_at
          replace w : Wd D B cy s s.heap (st NL21 146 8 (zI 0)) H locs := w
          generalize (st NL21 146 8 (zI 0)) = N12 at w hIN12 hFN12 hRK9 hK9 kn13 kn14 kn15 kn16
          have lp119 : ∀ (f : Nat) (v2_119 : Int)  (NL119 : Mem), (0 ≤ v2_119 ∧ v2_119 ≤ 64) → NL119.1 146 16 = zI g146_16_21 → NL119.1 146 13 = zI g146_13_21 → NL119.1 146 11 = zI g146_11_21 → NL119.1 146 8 = zI 0 → (∀ j : Nat, (j : Int) < v2_119 → NL119.1 149 (0 + j) = NL119.1 154 (0 + j)) → (∀ i : Nat, i < 0 ∨ 0 + (v2_119).toNat ≤ i → NL119.1 149 i = (Prod.fst N12) 149 i) → (∀ i : Nat, NL119.1 154 i = (Prod.fst N12) 154 i) → (v2_119 ≤ 8 * v1_21) → IvB NL119 → Fr (fun b9 k9 => (b9 = 146 ∧ k9 = 11) ∨ (b9 = 146 ∧ k9 = 13) ∨ (b9 = 146 ∧ k9 = 14) ∨ (b9 = 146 ∧ k9 = 15) ∨ (b9 = 146 ∧ k9 = 16) ∨ (b9 = 146 ∧ k9 = 5) ∨ (b9 = 146 ∧ k9 = 8) ∨ (b9 = 146 ∧ k9 = 9) ∨ b9 = 149 ∨ b9 = 153 ∨ b9 = 154) NL119 M → (Int.toNat (64 - v2_119) < f) → ∀ (H : Heap) (locs : List Loc) (ls : Array Slot), Wd D B cy s s.heap NL119 H locs → lv_has ls 3 [(2, .int (zI v2_119)), (1, .int (zI v1_21)), (0, .ref (B + 146))] → W p l e (rmm 6 130) s m args below meth c H locs 0 0 Q (F0 m 119 ls []) := by
            intro f
            induction f with
            | zero => intros; omega
            | succ f ih119 =>
              intro v2_119  NL119 iv2_119 eg146_16_119 eg146_13_119 eg146_11_119 eg146_8_119 y119_0 y119_1 y119_2 y119_3 hIL119 hFL119 hf119 H locs ls w hl
              refine lv_iload_n hx hb dX12_rules_119 rfl (lv_at hl 0 rfl) ?_
              refine lv_bipush (v := zI 8) hx hb dX12_rules_120 (by decide) ?_
              refine lv_iload_n hx hb dX12_rules_122 rfl (lv_at hl 1 rfl) ?_
              refine z_imul (z := (8 * v1_21)) hx hb dX12_rules_123 (by omega) ?_
              refine z_icmp_ge (tgt := 145) hx hb (by omega) (by omega) dX12_rules_124 (by decide) (fun c17 => ?_) (fun c17 => ?_)
              · refine lv_aload_n hx hb dX12_rules_145 rfl (lv_at hl 2 rfl) ?_
                refine lv_iload_n hx hb dX12_rules_146 rfl (lv_at hl 1 rfl) ?_
                refine u_12_5 F w (a := 146) rfl tb_604 dX12_rules_147 (fun H locs w => ?_)
                refine lv_iload_n hx hb dX12_rules_150 rfl (lv_at hl 1 rfl) ?_
                have hf9 : Fr (fun b9 k9 => (b9 = 146 ∧ k9 = 11) ∨ (b9 = 146 ∧ k9 = 13) ∨ (b9 = 146 ∧ k9 = 14) ∨ (b9 = 146 ∧ k9 = 15) ∨ (b9 = 146 ∧ k9 = 16) ∨ (b9 = 146 ∧ k9 = 5) ∨ (b9 = 146 ∧ k9 = 8) ∨ (b9 = 146 ∧ k9 = 9) ∨ b9 = 149 ∨ b9 = 153 ∨ b9 = 154) (st NL119 146 5 (zI v1_21)) M := (Fr.to hFL119 (by first | decide | (dsimp only; first | done | decide | omega) | omega))
                have hb9 : IvB (st NL119 146 5 (zI v1_21)) := (IvB.to hIL119 (a := 146) (k := 5) (x := v1_21) (show ivr 146 5 = (0, 8) from rfl) (by omega) (by decide))
                have h79 : ∀ k9, (Prod.fst (st NL119 146 5 (zI v1_21))) 147 k9 = M.1 147 k9 := fun k9 => hf9 147 k9 (by first | decide | (dsimp only; first | done | decide | omega) | omega)
                have h59 : ∀ k9, (Prod.fst (st NL119 146 5 (zI v1_21))) 155 k9 = M.1 155 k9 := fun k9 => hf9 155 k9 (by first | decide | (dsimp only; first | done | decide | omega) | omega)
                have hk9 : ∀ r, r < 8 → RKr ((Prod.fst (st NL119 146 5 (zI v1_21))) 149) (8 * r) := by
                  intro r hr
                  by_cases q9 : (r : Int) < v1_21
                  · refine RKr_cg (hRK9 r q9) ?_ ?_
                    · have z1 := y119_0 (8 * r) (by omega)
                      rw [show 0 + 8 * r = 8 * r by omega] at z1
                      exact ((st_ne (Or.inl (by decide))).trans z1).trans (y119_2 (8 * r))
                    · have z1 := y119_0 (8 * r + 3) (by omega)
                      rw [show 0 + (8 * r + 3) = 8 * r + 3 by omega] at z1
                      exact ((st_ne (Or.inl (by decide))).trans z1).trans (y119_2 (8 * r + 3))
                  · exact RKr_cg (hI.2.1.2.2 r hr) (((st_ne (Or.inl (by decide))).trans (y119_1 (8 * r) (by omega))).trans (hK9 _)) (((st_ne (Or.inl (by decide))).trans (y119_1 (8 * r + 3) (by omega))).trans (hK9 _))
                rw [hQ]
                exact e_i F w hr hlocks ⟨_, rfl, ⟨by omega, by omega⟩, ⟨0, ((st_ne (Or.inr (by decide))).trans eg146_8_119), ⟨by omega, by omega⟩, (by omega)⟩, (IvB.up hb9 hI hf9 (NCw_cg hI.2.1.1.1 (fun k9 _ => h79 k9)) (fun k9 => by first | decide | (dsimp only; first | done | decide | omega) | omega) (fun k9 => by first | decide | (dsimp only; first | done | decide | omega) | omega) (fun i9 hi9 => NCw_cg (hI.2.1.2.1 i9 hi9) (fun k9 _ => h59 _)) hk9), (Fr.to hFL119 (by first | decide | (dsimp only; first | done | decide | omega) | omega))⟩ dX12_rules_151
              · refine lv_aload_n hx hb dX12_rules_127 rfl (lv_at hl 2 rfl) ?_
                refine f_12_4 F w (a := 146) rfl tb_532 dX12_rules_128 ?_
                refine lv_iload_n hx hb dX12_rules_131 rfl (lv_at hl 0 rfl) ?_
                refine lv_aload_n hx hb dX12_rules_132 rfl (lv_at hl 2 rfl) ?_
                refine f_12_18 F w (a := 146) rfl tb_721 dX12_rules_133 ?_
                refine lv_iload_n hx hb dX12_rules_136 rfl (lv_at hl 0 rfl) ?_
                refine g_iald F w (a := 154) rfl (j := (Int.toNat v2_119)) (ix_z (by omega) (by omega)) (by omega) dX12_rules_137 ?_
                obtain ⟨z18, bz18, ez18⟩ := rg_ex (Prod.fst NL119 154 (Int.toNat v2_119))
                refine r_val ez18 ?_
                refine g_iast F w (a := 149) rfl (j := (Int.toNat v2_119)) (ix_z (by omega) (by omega)) (by omega) dX12_rules_138 (fun H locs w => ?_)
                refine z_iinc (v := (v2_119 + 1)) (lv' := [(2, .int (zI (v2_119 + 1))), (1, .int (zI v1_21)), (0, .ref (B + 146))]) hx hb dX12_rules_139 hl (k := 0) rfl (by omega) (by decide) rfl (fun ls hl => ?_)
                refine lv_goto (tgt := 119) hx hb dX12_rules_142 (by decide) ?_
                exact ih119 (v2_119 + 1) (st NL119 149 (Int.toNat v2_119) (zI z18)) (by omega)  ((st_ne (Or.inl (by decide))).trans eg146_16_119) ((st_ne (Or.inl (by decide))).trans eg146_13_119) ((st_ne (Or.inl (by decide))).trans eg146_11_119) ((st_ne (Or.inl (by decide))).trans eg146_8_119) (cp_step (a := 149) (b := 154) (od := 0) (os := 0) (v := v2_119) (by decide) (by omega) (by omega) (by omega) ez18 y119_0) (cp_oth (od := 0) (v := v2_119) (by omega) (by omega) y119_1) (fun i => (st_ne (Or.inl (by decide))).trans (y119_2 i)) (by omega) (IvB.cpA hIL119 (a := 149) (k := (Int.toNat v2_119)) (b := 154) (j := (Int.toNat v2_119)) (x := z18) ez18 bz18 (by decide) rfl (by decide)) (Fr.to hFL119 (by first | decide | (dsimp only; first | done | decide | omega) | omega)) (by omega) _ _ _ w (lv_sub hl [0, 1, 2] rfl)
          exact lp119 _ 0 N12 (by omega) (kn13) (kn14) (kn15) (kn16) (fun j hj => False.elim (by omega)) (fun i hi => rfl) (fun i => rfl) (by omega) hIN12 hFN12 (Nat.lt_succ_self _) _ _ _ w (lv_sub hl [0, 1, 2] rfl)
        · refine lv_iload_n hx hb dX12_rules_35 rfl (lv_at hl 0 rfl) ?_
          refine lv_bipush (v := zI 8) hx hb dX12_rules_36 (by decide) ?_
          refine z_icmp_ne (tgt := 49) hx hb (by omega) (by omega) dX12_rules_38 (by decide) (fun c19 => ?_) (fun c19 => ?_)
          · refine lv_aload_n hx hb dX12_rules_49 rfl (lv_at hl 1 rfl) ?_
            refine k_Vv F w (As := []) (rest := []) (a := 146) (kd_lt (a := 146) (show kd 146 = (12, 0, 0) from rfl) (by decide)) (sh_12 rfl _ _) rfl (q_X12_readsRule (tk := g146_13_21) (eg146_13_21) ⟨by omega, by omega⟩ (nb := g146_11_21) (eg146_11_21) ⟨by omega, by omega⟩ (by omega) hIL21) gv_X12_236 hv_X12_readsRule ⟨(Nat.le_of_ble_eq_true rfl), (Nat.le_of_ble_eq_true rfl)⟩ hl.1 rfl (Nat.le_of_ble_eq_true rfl) ⟨Nat.zero_le _, Nat.zero_le _⟩ dX12_rules_50 (fun N21 H locs hp w => ?_)
            obtain ⟨⟨nz220, nz221, nz222, enz220, enz221, enz222, xz22⟩, alN21, hIN21, hFN21⟩ := hp
            have hGN21 := Fr.tr hFL21 hFN21 (S := (fun b9 k9 => (b9 = 146 ∧ k9 = 11) ∨ (b9 = 146 ∧ k9 = 13) ∨ (b9 = 146 ∧ k9 = 14) ∨ (b9 = 146 ∧ k9 = 15) ∨ (b9 = 146 ∧ k9 = 16) ∨ (b9 = 146 ∧ k9 = 5) ∨ (b9 = 146 ∧ k9 = 8) ∨ (b9 = 146 ∧ k9 = 9) ∨ b9 = 149 ∨ b9 = 153 ∨ b9 = 154)) (fun b k h => by (try dsimp only at h ⊢); rcases h with ⟨rfl, rfl⟩ | ⟨rfl, rfl⟩ | ⟨rfl, rfl⟩ | ⟨rfl, rfl⟩ | ⟨rfl, rfl⟩ | ⟨rfl, rfl⟩ | rfl <;> first | decide | omega)
            have kn23 : N21.1 146 8 = zI ts := (hFN21 146 8 (by first | decide | (dsimp only; first | done | decide | omega) | omega)).trans (eg146_8_21)
            have hKN21 : ∀ k9, N21.1 149 k9 = M.1 149 k9 := fun k9 => (hFN21 149 k9 (by first | decide | (dsimp only; first | done | decide | omega) | omega)).trans (y21_2 k9)
            refine lv_iconst (v := zI 0) hx hb dX12_rules_53 rfl ?_
            refine lv_istore_n (lv' := [(2, .int (zI 0)), (1, .int (zI v1_21)), (0, .ref (B + 146))]) hx hb dX12_rules_54 rfl hl (by decide) rfl (fun ls hl => ?_)
            have lp55 : ∀ (f : Nat) (v2_55 : Int)  (NL55 : Mem), (0 ≤ v2_55 ∧ v2_55 ≤ 8) → NL55.1 146 8 = zI ts → NL55.1 146 13 = zI nz220 → NL55.1 146 11 = zI nz221 → NL55.1 146 16 = zI nz222 → (∀ j : Nat, (j : Int) < v2_55 → NL55.1 154 (Int.toNat (8 * v1_21) + j) = NL55.1 153 (0 + j)) → (∀ i : Nat, i < Int.toNat (8 * v1_21) ∨ Int.toNat (8 * v1_21) + (v2_55).toNat ≤ i → NL55.1 154 i = (Prod.fst N21) 154 i) → (∀ i : Nat, NL55.1 153 i = (Prod.fst N21) 153 i) → (∀ k9, NL55.1 149 k9 = M.1 149 k9) → IvR NL55 → Fr (fun b9 k9 => (b9 = 146 ∧ k9 = 11) ∨ (b9 = 146 ∧ k9 = 13) ∨ (b9 = 146 ∧ k9 = 14) ∨ (b9 = 146 ∧ k9 = 15) ∨ (b9 = 146 ∧ k9 = 16) ∨ (b9 = 146 ∧ k9 = 5) ∨ (b9 = 146 ∧ k9 = 8) ∨ (b9 = 146 ∧ k9 = 9) ∨ b9 = 149 ∨ b9 = 153 ∨ b9 = 154) NL55 M → (Int.toNat (8 - v2_55) < f) → ∀ (H : Heap) (locs : List Loc) (ls : Array Slot), Wd D B cy s s.heap NL55 H locs → lv_has ls 3 [(2, .int (zI v2_55)), (1, .int (zI v1_21)), (0, .ref (B + 146))] → W p l e (rmm 6 130) s m args below meth c H locs 0 0 Q (F0 m 55 ls []) := by
              intro f
              induction f with
              | zero => intros; omega
              | succ f ih55 =>
                intro v2_55  NL55 iv2_55 eg146_8_55 eg146_13_55 eg146_11_55 eg146_16_55 y55_0 y55_1 y55_2 y55_3 hIL55 hFL55 hf55 H locs ls w hl
                refine lv_iload_n hx hb dX12_rules_55 rfl (lv_at hl 0 rfl) ?_
                refine lv_bipush (v := zI 8) hx hb dX12_rules_56 (by decide) ?_
                refine z_icmp_ge (tgt := 91) hx hb (by omega) (by omega) dX12_rules_58 (by decide) (fun c24 => ?_) (fun c24 => ?_)
                · refine z_iinc (v := (v1_21 + 1)) (lv' := [(1, .int (zI (v1_21 + 1))), (2, .int (zI v2_55)), (0, .ref (B + 146))]) hx hb dX12_rules_91 hl (k := 1) rfl (by omega) (by decide) rfl (fun ls hl => ?_)
                  refine lv_goto (tgt := 21) hx hb dX12_rules_94 (by decide) ?_
                  exact ih21 (v1_21 + 1) nz222 nz220 nz221 NL55 (by omega) (by omega) (by omega) (by omega) (eg146_16_55) (eg146_13_55) (eg146_11_55) (eg146_8_55) (Or.inr (fun r hr => by (have h0 : ∀ i : Nat, i < 64 → N21.1 154 i = NL21.1 154 i := fun i _ => hFN21 154 i (by first | decide | (dsimp only; first | done | decide | omega) | omega);  by_cases q9 : (r : Int) < v1_21; (have h2 := y21_0.resolve_left (by omega) r q9; exact RKr_cg h2 ((y55_1 (8 * r) (by omega)).trans (h0 (8 * r) (by omega))) ((y55_1 (8 * r + 3) (by omega)).trans (h0 (8 * r + 3) (by omega)))); (refine RKr_cg (o := 0) alN21 ?_ ?_; (have z1 := y55_0 0 (by omega); rw [show Int.toNat (8 * v1_21) + 0 = 8 * r by omega] at z1; exact z1.trans (y55_2 0)); (have z1 := y55_0 3 (by omega); rw [show Int.toNat (8 * v1_21) + 3 = 8 * r + 3 by omega] at z1; exact z1.trans (y55_2 3)))))) (by omega) (y55_3) hIL55 hFL55 (by omega) _ _ _ w (lv_sub hl [0, 2] rfl)
                · refine lv_aload_n hx hb dX12_rules_61 rfl (lv_at hl 2 rfl) ?_
                  refine f_12_16 F w (a := 146) rfl tb_669 dX12_rules_62 ?_
                  refine r_val (v := zI nz222) (eg146_16_55) ?_
                  refine z_if_ne (tgt := 91) hx hb (by omega) dX12_rules_65 (by decide) (fun c25 => ?_) (fun c25 => ?_)
                  · refine z_iinc (v := (v1_21 + 1)) (lv' := [(1, .int (zI (v1_21 + 1))), (2, .int (zI v2_55)), (0, .ref (B + 146))]) hx hb dX12_rules_91 hl (k := 1) rfl (by omega) (by decide) rfl (fun ls hl => ?_)
                    refine lv_goto (tgt := 21) hx hb dX12_rules_94 (by decide) ?_
                    exact ih21 (v1_21 + 1) nz222 nz220 nz221 NL55 (by omega) (by omega) (by omega) (by omega) (eg146_16_55) (eg146_13_55) (eg146_11_55) (eg146_8_55) (Or.inl (by omega)) (by omega) (y55_3) hIL55 hFL55 (by omega) _ _ _ w (lv_sub hl [0, 2] rfl)
                  · refine lv_aload_n hx hb dX12_rules_68 rfl (lv_at hl 2 rfl) ?_
                    refine f_12_18 F w (a := 146) rfl tb_721 dX12_rules_69 ?_
                    refine lv_bipush (v := zI 8) hx hb dX12_rules_72 (by decide) ?_
                    refine lv_iload_n hx hb dX12_rules_74 rfl (lv_at hl 1 rfl) ?_
                    refine z_imul (z := (8 * v1_21)) hx hb dX12_rules_75 (by omega) ?_
                    refine lv_iload_n hx hb dX12_rules_76 rfl (lv_at hl 0 rfl) ?_
                    refine z_iadd (z := ((8 * v1_21) + v2_55)) hx hb dX12_rules_77 (by omega) ?_
                    refine lv_aload_n hx hb dX12_rules_78 rfl (lv_at hl 2 rfl) ?_
                    refine f_12_17 F w (a := 146) rfl tb_676 dX12_rules_79 ?_
                    refine lv_iload_n hx hb dX12_rules_82 rfl (lv_at hl 0 rfl) ?_
                    refine g_iald F w (a := 153) rfl (j := (Int.toNat v2_55)) (ix_z (by omega) (by omega)) (by omega) dX12_rules_83 ?_
                    obtain ⟨z26, bz26, ez26⟩ := IvR.ld (k := (Int.toNat v2_55)) hIL55 (show ivr 153 (Int.toNat v2_55) = ((-99), 300) from rfl) (show 146 ≤ 153 ∧ 153 < 159 by decide)
                    refine r_val ez26 ?_
                    refine g_iast F w (a := 154) rfl (j := (Int.toNat ((8 * v1_21) + v2_55))) (ix_z (by omega) (by omega)) (by omega) dX12_rules_84 (fun H locs w => ?_)
                    refine z_iinc (v := (v2_55 + 1)) (lv' := [(2, .int (zI (v2_55 + 1))), (1, .int (zI v1_21)), (0, .ref (B + 146))]) hx hb dX12_rules_85 hl (k := 0) rfl (by omega) (by decide) rfl (fun ls hl => ?_)
                    refine lv_goto (tgt := 55) hx hb dX12_rules_88 (by decide) ?_
                    exact ih55 (v2_55 + 1) (st NL55 154 (Int.toNat ((8 * v1_21) + v2_55)) (zI z26)) (by omega)  ((st_ne (Or.inl (by decide))).trans eg146_8_55) ((st_ne (Or.inl (by decide))).trans eg146_13_55) ((st_ne (Or.inl (by decide))).trans eg146_11_55) ((st_ne (Or.inl (by decide))).trans eg146_16_55) (cp_step (a := 154) (b := 153) (od := Int.toNat (8 * v1_21)) (os := 0) (v := v2_55) (by decide) (by omega) (by omega) (by omega) ez26 y55_0) (cp_oth (od := Int.toNat (8 * v1_21)) (v := v2_55) (by omega) (by omega) y55_1) (fun i => (st_ne (Or.inl (by decide))).trans (y55_2 i)) (fun k9 => (st_ne (Or.inl (by decide))).trans (y55_3 k9)) (IvR.to hIL55 (a := 154) (k := (Int.toNat ((8 * v1_21) + v2_55))) (x := z26) (show ivr 154 (Int.toNat ((8 * v1_21) + v2_55)) = ((-99), 300) from rfl) ⟨by omega, by omega⟩ ⟨by decide, by decide, by decide, fun q9 => absurd q9 (by decide)⟩) (Fr.to hFL55 (by first | decide | (dsimp only; first | done | decide | omega) | omega)) (by omega) _ _ _ w (lv_sub hl [0, 1, 2] rfl)
            exact lp55 _ 0 N21 (by omega) (kn23) (enz220) (enz221) (enz222) (fun j hj => False.elim (by omega)) (fun i hi => rfl) (fun i => rfl) (hKN21) hIN21 hGN21 (Nat.lt_succ_self _) _ _ _ w (lv_sub hl [0, 1, 2] rfl)
          · refine lv_aload_n hx hb dX12_rules_41 rfl (lv_at hl 1 rfl) ?_
            refine lv_iconst (v := zI 1) hx hb dX12_rules_42 rfl ?_
            refine u_12_16 F w (a := 146) rfl (nar_z (by omega)) (fit_z (by omega)) tb_669 dX12_rules_43 (fun H locs w => ?_)
            refine lv_goto (tgt := 21) hx hb dX12_rules_46 (by decide) ?_
            exact ih21 v1_21 1 g146_13_21 g146_11_21 (st NL21 146 16 (zI 1)) (by omega) (by omega) (by omega) (by omega) (st_at) ((st_ne (Or.inr (by decide))).trans eg146_13_21) ((st_ne (Or.inr (by decide))).trans eg146_11_21) ((st_ne (Or.inr (by decide))).trans eg146_8_21) (Or.inl (by omega)) (by omega) (fun k9 => (st_ne (Or.inl (by decide))).trans (y21_2 k9)) (IvR.to hIL21 (a := 146) (k := 16) (x := 1) (show ivr 146 16 = (0, 1) from rfl) ⟨by omega, by omega⟩ ⟨by decide, by decide, by decide, fun q9 => absurd q9 (by decide)⟩) (Fr.to hFL21 (by first | decide | (dsimp only; first | done | decide | omega) | omega)) (by omega) _ _ _ w (lv_sub hl [0, 1] rfl)
  exact lp21 _ 0 0 nz30 nz31 N2 (by omega) (by omega) (by omega) (by omega) (kn5) (enz30) (enz31) (kn4) (Or.inr (fun r hr => False.elim (by omega))) (by omega) (hKN2) hIN2 hGN2 (Nat.lt_succ_self _) _ _ _ w (lv_sub hl [0, 1] rfl)
