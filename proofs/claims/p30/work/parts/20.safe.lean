theorem low_ex (x : Int) (h : 0 ≤ x ∧ x ≤ 4095) : ∃ z : Int, (-1 ≤ z ∧ z ≤ 11) ∧ ((x = 0 ∧ z = -1) ∨ (x ≠ 0 ∧ 0 ≤ z)) ∧ zI (lowI x.toNat) = zI z := by
  refine ⟨lowI x.toNat, ?_, ?_, rfl⟩
  · have := lowI_rg x.toNat (by omega); omega
  · by_cases hx : x = 0
    · exact Or.inl ⟨hx, lowI_0 (by omega)⟩
    · exact Or.inr ⟨hx, by rw [lowI_nz (by omega)]; omega⟩
theorem hig_ex (x : Int) (h : 0 ≤ x ∧ x ≤ 4095) : ∃ z : Int, (-1 ≤ z ∧ z ≤ 11) ∧ ((x = 0 ∧ z = -1) ∨ (x ≠ 0 ∧ 0 ≤ z)) ∧ zI (higI x.toNat) = zI z := by
  refine ⟨higI x.toNat, ?_, ?_, rfl⟩
  · have := higI_rg x.toNat (by omega); omega
  · by_cases hx : x = 0
    · exact Or.inl ⟨hx, by rw [hx]; rfl⟩
    · exact Or.inr ⟨hx, by rw [higI_nz (by omega)]; omega⟩
theorem pop_ex (x : Int) (h : 0 ≤ x ∧ x ≤ 4095) : ∃ z : Int, (0 ≤ z ∧ z ≤ 12) ∧ zI ((pop x.toNat : Nat) : Int) = zI z :=
  ⟨_, by have := (pop_le x.toNat (by omega)).1; omega, rfl⟩
theorem q_bitCount {l : Launch} {D : va_G} {B : Nat} {cy : Nat → ClassId} {M : Mem} {x : Int} (h : 0 ≤ x ∧ x ≤ 4095) : Ci l D B cy yJ6_bitCount_0f7a4 cJ6_bitCount_0f7a4 1 (some .int) 0 0 [.int (zI x)] M (fun r M1 => r = zI ((pop x.toNat : Nat) : Int) ∧ M1 = M) := by
  have h1 := s_bitCountN (l := l) (D := D) (B := B) (cy := cy) (M := M) (m := x.toNat) (by omega)
  rwa [show ((x.toNat : Nat) : Int) = x by omega] at h1
theorem q_lowest {l : Launch} {D : va_G} {B : Nat} {cy : Nat → ClassId} {M : Mem} {x : Int} (h : 0 ≤ x ∧ x ≤ 4095) : Ci l D B cy yX11_lowest cX11_lowest 1 (some .int) 1 20 [.int (zI x)] M (fun r M1 => r = zI (lowI x.toNat) ∧ M1 = M) := by
  have h1 := s_X11_lowest (l := l) (D := D) (B := B) (cy := cy) (M := M) (m9 := x.toNat) (by omega)
  rwa [show ((x.toNat : Nat) : Int) = x by omega] at h1
theorem q_highest {l : Launch} {D : va_G} {B : Nat} {cy : Nat → ClassId} {M : Mem} {x : Int} (h : 0 ≤ x ∧ x ≤ 4095) : Ci l D B cy yX11_highest cX11_highest 2 (some .int) 0 0 [.int (zI x)] M (fun r M1 => r = zI (higI x.toNat) ∧ M1 = M) := by
  have h1 := s_X11_highest (l := l) (D := D) (B := B) (cy := cy) (M := M) (m9 := x.toNat) (by omega)
  rwa [show ((x.toNat : Nat) : Int) = x by omega] at h1
set_option maxRecDepth 4000 in
theorem q_X9_hasTone {l : Launch} {D : va_G} {B : Nat} {cy : Nat → ClassId} {M : Mem} {a : Nat} (hka : kd a = (9, 0, 0)) {t : Int} (ht : (-2147483648) ≤ t ∧ t ≤ 2147483647) {nn : Int} (hgnn : M.1 a 0 = zI nn) (hnn : 0 ≤ nn ∧ nn ≤ 12) (hI : Inv M) : Ci l D B cy yX9_hasTone cX9_hasTone 2 (some .boolean) 0 0 [.ref (B + a), .int (zI t)] M (fun r M1 => ∃ z : Int, r = zI z ∧ (0 ≤ z ∧ z ≤ 1) ∧ (z = 0 ∨ (0 ≤ t ∧ t ≤ 11 ∧ t < nn)) ∧ M1 = M) := by
  refine s_anyQ (by decide) (Nat.le_of_ble_eq_true rfl) ?_
  intro p e s m args below meth c ls Q F hr hlocks hQ w hl
  have F : CallFix p m c cX9_hasTone 2 s args TB RX9 := F
  have hx := F.1
  have hb := F.2.1
  have hl : lv_has ls 2 [(0, .ref (B + a)), (1, .int (zI t))] := hl
  refine lv_iload_n hx hb dX9_hasTone_0 rfl (lv_at hl 1 rfl) ?_
  refine z_if_lt (tgt := 22) hx hb (by omega) dX9_hasTone_1 (by decide) (fun c1 => ?_) (fun c1 => ?_)
  · refine lv_iconst (v := zI 0) hx hb dX9_hasTone_22 rfl ?_
    rw [hQ]
    exact e_z F w hr hlocks (nar_z (by omega)) ⟨_, rfl, (by omega), (by omega), rfl⟩ dX9_hasTone_23
  · refine lv_iload_n hx hb dX9_hasTone_4 rfl (lv_at hl 1 rfl) ?_
    refine lv_aload_n hx hb dX9_hasTone_5 rfl (lv_at hl 0 rfl) ?_
    refine f_9_0 F w (a := a) hka tb_0 dX9_hasTone_6 ?_
    refine r_val (v := zI nn) (hgnn) ?_
    refine z_icmp_ge (tgt := 22) hx hb (by omega) (by omega) dX9_hasTone_9 (by decide) (fun c2 => ?_) (fun c2 => ?_)
    · refine lv_iconst (v := zI 0) hx hb dX9_hasTone_22 rfl ?_
      rw [hQ]
      exact e_z F w hr hlocks (nar_z (by omega)) ⟨_, rfl, (by omega), (by omega), rfl⟩ dX9_hasTone_23
    · refine lv_iload_n hx hb dX9_hasTone_12 rfl (lv_at hl 1 rfl) ?_
      refine lv_bipush (v := zI 12) hx hb dX9_hasTone_13 (by decide) ?_
      refine z_icmp_ge (tgt := 22) hx hb (by omega) (by omega) dX9_hasTone_15 (by decide) (fun c3 => False.elim (by omega)) (fun c3 => ?_)
      refine lv_iconst (v := zI 1) hx hb dX9_hasTone_18 rfl ?_
      refine lv_goto (tgt := 23) hx hb dX9_hasTone_19 (by decide) ?_
      rw [hQ]
      exact e_z F w hr hlocks (nar_z (by omega)) ⟨_, rfl, (by omega), (by omega), rfl⟩ dX9_hasTone_23
set_option maxRecDepth 4000 in
theorem q_X9_hasSyllable {l : Launch} {D : va_G} {B : Nat} {cy : Nat → ClassId} {M : Mem} {a : Nat} (hka : kd a = (9, 0, 0)) {y : Int} (hy : (-2147483648) ≤ y ∧ y ≤ 2147483647) (hI : Inv M) : Ci l D B cy yX9_hasSyllable cX9_hasSyllable 2 (some .boolean) 0 0 [.ref (B + a), .int (zI y)] M (fun r M1 => ∃ z : Int, r = zI z ∧ (0 ≤ z ∧ z ≤ 1) ∧ ((z = 0 ∨ (0 ≤ y ∧ y ≤ 11))) ∧ M1 = M) := by
  refine s_anyQ (by decide) (Nat.le_of_ble_eq_true rfl) ?_
  intro p e s m args below meth c ls Q F hr hlocks hQ w hl
  have F : CallFix p m c cX9_hasSyllable 2 s args TB RX9 := F
  have hx := F.1
  have hb := F.2.1
  have hl : lv_has ls 2 [(0, .ref (B + a)), (1, .int (zI y))] := hl
  refine lv_iload_n hx hb dX9_hasSyllable_0 rfl (lv_at hl 1 rfl) ?_
  refine z_if_lt (tgt := 16) hx hb (by omega) dX9_hasSyllable_1 (by decide) (fun c1 => ?_) (fun c1 => ?_)
  · refine lv_iconst (v := zI 0) hx hb dX9_hasSyllable_16 rfl ?_
    rw [hQ]
    exact e_z F w hr hlocks (nar_z (by omega)) ⟨_, rfl, (by omega), (by omega), rfl⟩ dX9_hasSyllable_17
  · refine lv_iload_n hx hb dX9_hasSyllable_4 rfl (lv_at hl 1 rfl) ?_
    refine lv_aload_n hx hb dX9_hasSyllable_5 rfl (lv_at hl 0 rfl) ?_
    refine f_9_1 F w (a := a) hka tb_1 dX9_hasSyllable_6 ?_
    obtain ⟨z2, bz2, ez2⟩ := Inv.ld (k := 1) hI (iv_w1 hka) (by have := lt_w hka; omega)
    refine r_val ez2 ?_
    refine z_icmp_ge (tgt := 16) hx hb (by omega) (by omega) dX9_hasSyllable_9 (by decide) (fun c3 => ?_) (fun c3 => ?_)
    · refine lv_iconst (v := zI 0) hx hb dX9_hasSyllable_16 rfl ?_
      rw [hQ]
      exact e_z F w hr hlocks (nar_z (by omega)) ⟨_, rfl, (by omega), (by omega), rfl⟩ dX9_hasSyllable_17
    · refine lv_iconst (v := zI 1) hx hb dX9_hasSyllable_12 rfl ?_
      refine lv_goto (tgt := 17) hx hb dX9_hasSyllable_13 (by decide) ?_
      rw [hQ]
      exact e_z F w hr hlocks (nar_z (by omega)) ⟨_, rfl, (by omega), (by omega), rfl⟩ dX9_hasSyllable_17
set_option maxRecDepth 4000 in
theorem q_X9_hasLine {l : Launch} {D : va_G} {B : Nat} {cy : Nat → ClassId} {M : Mem} {a : Nat} (hka : kd a = (9, 0, 0)) {t : Int} (ht : (-2147483648) ≤ t ∧ t ≤ 2147483647) {y : Int} (hy : (-2147483648) ≤ y ∧ y ≤ 2147483647) (hI : Inv M) : Ci l D B cy yX9_hasLine cX9_hasLine 3 (some .boolean) 1 21 [.ref (B + a), .int (zI t), .int (zI y)] M (fun r M1 => ∃ z : Int, r = zI z ∧ (0 ≤ z ∧ z ≤ 1) ∧ ((z = 0 ∨ (0 ≤ t ∧ t ≤ 11)) ∧ (z = 0 ∨ (0 ≤ y ∧ y ≤ 11))) ∧ M1 = M) := by
  refine s_anyQ (by decide) (Nat.le_of_ble_eq_true rfl) ?_
  intro p e s m args below meth c ls Q F hr hlocks hQ w hl
  have F : CallFix p m c cX9_hasLine 3 s args TB RX9 := F
  have hx := F.1
  have hb := F.2.1
  have hl : lv_has ls 3 [(0, .ref (B + a)), (1, .int (zI t)), (2, .int (zI y))] := hl
  refine lv_aload_n hx hb dX9_hasLine_0 rfl (lv_at hl 0 rfl) ?_
  refine lv_iload_n hx hb dX9_hasLine_1 rfl (lv_at hl 1 rfl) ?_
  obtain ⟨z1, bz1, ez1⟩ := Inv.ld (k := 0) hI (iv_w0 hka) (by have := lt_w hka; omega)
  refine k_Vi F w (As := [.int (zI t)]) (rest := []) (a := a) (kd_lt (a := a) hka (by decide)) (sh_9 hka _ _) rfl (q_X9_hasTone (a := a) hka (t := t) (by omega) (nn := z1) (ez1) (by omega)  hI) gv_X9_41 hv_X9_hasTone ⟨(Nat.le_of_ble_eq_true rfl), (Nat.le_of_ble_eq_true rfl)⟩ hl.1 rfl (Nat.le_of_ble_eq_true rfl) ⟨Nat.zero_le _, Nat.zero_le _⟩ dX9_hasLine_2 (fun r2 N3 H locs hp w => ?_)
  obtain ⟨z4, rfl, bz4, xz4, hMN3⟩ := hp
  rw [hMN3] at w
  refine z_if_eq (tgt := 33) hx hb (by omega) dX9_hasLine_5 (by decide) (fun c5 => ?_) (fun c5 => ?_)
  · refine lv_iconst (v := zI 0) hx hb dX9_hasLine_33 rfl ?_
    rw [hQ]
    exact e_z F w hr hlocks (nar_z (by omega)) ⟨_, rfl, (by omega), (by omega), rfl⟩ dX9_hasLine_34
  · refine lv_aload_n hx hb dX9_hasLine_8 rfl (lv_at hl 0 rfl) ?_
    refine lv_iload_n hx hb dX9_hasLine_9 rfl (lv_at hl 2 rfl) ?_
    refine k_Vi F w (As := [.int (zI y)]) (rest := []) (a := a) (kd_lt (a := a) hka (by decide)) (sh_9 hka _ _) rfl (q_X9_hasSyllable (a := a) hka (y := y) (by omega)  hI) gv_X9_45 hv_X9_hasSyllable ⟨(Nat.le_of_ble_eq_true rfl), (Nat.le_of_ble_eq_true rfl)⟩ hl.1 rfl (Nat.le_of_ble_eq_true rfl) ⟨Nat.zero_le _, Nat.zero_le _⟩ dX9_hasLine_10 (fun r6 N7 H locs hp w => ?_)
    obtain ⟨z8, rfl, bz8, xz8, hMN7⟩ := hp
    rw [hMN7] at w
    refine z_if_eq (tgt := 33) hx hb (by omega) dX9_hasLine_13 (by decide) (fun c9 => ?_) (fun c9 => ?_)
    · refine lv_iconst (v := zI 0) hx hb dX9_hasLine_33 rfl ?_
      rw [hQ]
      exact e_z F w hr hlocks (nar_z (by omega)) ⟨_, rfl, (by omega), (by omega), rfl⟩ dX9_hasLine_34
    · refine lv_aload_n hx hb dX9_hasLine_16 rfl (lv_at hl 0 rfl) ?_
      refine f_9_5 F w (a := a) hka tb_6 dX9_hasLine_17 ?_
      refine lv_iload_n hx hb dX9_hasLine_20 rfl (lv_at hl 1 rfl) ?_
      refine g_iald F w (a := (a + 2)) (kd_w2 hka) (j := (Int.toNat t)) (ix_z (by omega) (by omega)) (by omega) dX9_hasLine_21 ?_
      obtain ⟨z10, bz10, ez10⟩ := Inv.ld (k := (Int.toNat t)) hI (iv_wl hka _) (by have := lt_w hka; omega)
      refine r_val ez10 ?_
      refine lv_iload_n hx hb dX9_hasLine_22 rfl (lv_at hl 2 rfl) ?_
      obtain ⟨z11, bz11, x0z11, ez11⟩ := shr_ex z10 y (by omega)
      refine lv_ishr hx hb dX9_hasLine_23 ?_
      refine r_val ez11 ?_
      refine lv_iconst (v := zI 1) hx hb dX9_hasLine_24 rfl ?_
      obtain ⟨z12, bz12, x0z12, x1z12, ez12⟩ := and_ex z11 1 (by omega) (by omega)
      refine lv_iand hx hb dX9_hasLine_25 ?_
      refine r_val ez12 ?_
      refine z_if_eq (tgt := 33) hx hb (by omega) dX9_hasLine_26 (by decide) (fun c13 => ?_) (fun c13 => ?_)
      · refine lv_iconst (v := zI 0) hx hb dX9_hasLine_33 rfl ?_
        rw [hQ]
        exact e_z F w hr hlocks (nar_z (by omega)) ⟨_, rfl, (by omega), (by omega), rfl⟩ dX9_hasLine_34
      · refine lv_iconst (v := zI 1) hx hb dX9_hasLine_29 rfl ?_
        refine lv_goto (tgt := 34) hx hb dX9_hasLine_30 (by decide) ?_
        rw [hQ]
        exact e_z F w hr hlocks (nar_z (by omega)) ⟨_, rfl, (by omega), (by omega), rfl⟩ dX9_hasLine_34
set_option maxRecDepth 4000 in
theorem q_X9_isHeavy {l : Launch} {D : va_G} {B : Nat} {cy : Nat → ClassId} {M : Mem} {a : Nat} (hka : kd a = (9, 0, 0)) {y : Int} (hy : (-2147483648) ≤ y ∧ y ≤ 2147483647) (hI : Inv M) : Ci l D B cy yX9_isHeavy cX9_isHeavy 2 (some .boolean) 1 21 [.ref (B + a), .int (zI y)] M (fun r M1 => ∃ z : Int, r = zI z ∧ (0 ≤ z ∧ z ≤ 1) ∧ ((z = 0 ∨ (0 ≤ y ∧ y ≤ 11))) ∧ M1 = M) := by
  refine s_anyQ (by decide) (Nat.le_of_ble_eq_true rfl) ?_
  intro p e s m args below meth c ls Q F hr hlocks hQ w hl
  have F : CallFix p m c cX9_isHeavy 2 s args TB RX9 := F
  have hx := F.1
  have hb := F.2.1
  have hl : lv_has ls 2 [(0, .ref (B + a)), (1, .int (zI y))] := hl
  refine lv_aload_n hx hb dX9_isHeavy_0 rfl (lv_at hl 0 rfl) ?_
  refine lv_iload_n hx hb dX9_isHeavy_1 rfl (lv_at hl 1 rfl) ?_
  refine k_Vi F w (As := [.int (zI y)]) (rest := []) (a := a) (kd_lt (a := a) hka (by decide)) (sh_9 hka _ _) rfl (q_X9_hasSyllable (a := a) hka (y := y) (by omega)  hI) gv_X9_45 hv_X9_hasSyllable ⟨(Nat.le_of_ble_eq_true rfl), (Nat.le_of_ble_eq_true rfl)⟩ hl.1 rfl (Nat.le_of_ble_eq_true rfl) ⟨Nat.zero_le _, Nat.zero_le _⟩ dX9_isHeavy_2 (fun r1 N2 H locs hp w => ?_)
  obtain ⟨z3, rfl, bz3, xz3, hMN2⟩ := hp
  rw [hMN2] at w
  refine z_if_eq (tgt := 23) hx hb (by omega) dX9_isHeavy_5 (by decide) (fun c4 => ?_) (fun c4 => ?_)
  · refine lv_iconst (v := zI 0) hx hb dX9_isHeavy_23 rfl ?_
    rw [hQ]
    exact e_z F w hr hlocks (nar_z (by omega)) ⟨_, rfl, (by omega), (by omega), rfl⟩ dX9_isHeavy_24
  · refine lv_aload_n hx hb dX9_isHeavy_8 rfl (lv_at hl 0 rfl) ?_
    refine f_9_2 F w (a := a) hka tb_11 dX9_isHeavy_9 ?_
    obtain ⟨z5, bz5, ez5⟩ := Inv.ld (k := 2) hI (iv_w2 hka) (by have := lt_w hka; omega)
    refine r_val ez5 ?_
    refine lv_iload_n hx hb dX9_isHeavy_12 rfl (lv_at hl 1 rfl) ?_
    obtain ⟨z6, bz6, x0z6, ez6⟩ := shr_ex z5 y (by omega)
    refine lv_ishr hx hb dX9_isHeavy_13 ?_
    refine r_val ez6 ?_
    refine lv_iconst (v := zI 1) hx hb dX9_isHeavy_14 rfl ?_
    obtain ⟨z7, bz7, x0z7, x1z7, ez7⟩ := and_ex z6 1 (by omega) (by omega)
    refine lv_iand hx hb dX9_isHeavy_15 ?_
    refine r_val ez7 ?_
    refine z_if_eq (tgt := 23) hx hb (by omega) dX9_isHeavy_16 (by decide) (fun c8 => ?_) (fun c8 => ?_)
    · refine lv_iconst (v := zI 0) hx hb dX9_isHeavy_23 rfl ?_
      rw [hQ]
      exact e_z F w hr hlocks (nar_z (by omega)) ⟨_, rfl, (by omega), (by omega), rfl⟩ dX9_isHeavy_24
    · refine lv_iconst (v := zI 1) hx hb dX9_isHeavy_19 rfl ?_
      refine lv_goto (tgt := 24) hx hb dX9_isHeavy_20 (by decide) ?_
      rw [hQ]
      exact e_z F w hr hlocks (nar_z (by omega)) ⟨_, rfl, (by omega), (by omega), rfl⟩ dX9_isHeavy_24
set_option maxRecDepth 4000 in
theorem q_X9_hasEdge {l : Launch} {D : va_G} {B : Nat} {cy : Nat → ClassId} {M : Mem} {a : Nat} (hka : kd a = (9, 0, 0)) {y : Int} (hy : (-2147483648) ≤ y ∧ y ≤ 2147483647) (hI : Inv M) : Ci l D B cy yX9_hasEdge cX9_hasEdge 2 (some .boolean) 1 21 [.ref (B + a), .int (zI y)] M (fun r M1 => ∃ z : Int, r = zI z ∧ (0 ≤ z ∧ z ≤ 1) ∧ ((z = 0 ∨ (0 ≤ y ∧ y ≤ 11))) ∧ M1 = M) := by
  refine s_anyQ (by decide) (Nat.le_of_ble_eq_true rfl) ?_
  intro p e s m args below meth c ls Q F hr hlocks hQ w hl
  have F : CallFix p m c cX9_hasEdge 2 s args TB RX9 := F
  have hx := F.1
  have hb := F.2.1
  have hl : lv_has ls 2 [(0, .ref (B + a)), (1, .int (zI y))] := hl
  refine lv_aload_n hx hb dX9_hasEdge_0 rfl (lv_at hl 0 rfl) ?_
  refine lv_iload_n hx hb dX9_hasEdge_1 rfl (lv_at hl 1 rfl) ?_
  refine k_Vi F w (As := [.int (zI y)]) (rest := []) (a := a) (kd_lt (a := a) hka (by decide)) (sh_9 hka _ _) rfl (q_X9_hasSyllable (a := a) hka (y := y) (by omega)  hI) gv_X9_45 hv_X9_hasSyllable ⟨(Nat.le_of_ble_eq_true rfl), (Nat.le_of_ble_eq_true rfl)⟩ hl.1 rfl (Nat.le_of_ble_eq_true rfl) ⟨Nat.zero_le _, Nat.zero_le _⟩ dX9_hasEdge_2 (fun r1 N2 H locs hp w => ?_)
  obtain ⟨z3, rfl, bz3, xz3, hMN2⟩ := hp
  rw [hMN2] at w
  refine z_if_eq (tgt := 23) hx hb (by omega) dX9_hasEdge_5 (by decide) (fun c4 => ?_) (fun c4 => ?_)
  · refine lv_iconst (v := zI 0) hx hb dX9_hasEdge_23 rfl ?_
    rw [hQ]
    exact e_z F w hr hlocks (nar_z (by omega)) ⟨_, rfl, (by omega), (by omega), rfl⟩ dX9_hasEdge_24
  · refine lv_aload_n hx hb dX9_hasEdge_8 rfl (lv_at hl 0 rfl) ?_
    refine f_9_3 F w (a := a) hka tb_12 dX9_hasEdge_9 ?_
    obtain ⟨z5, bz5, ez5⟩ := Inv.ld (k := 3) hI (iv_w3 hka) (by have := lt_w hka; omega)
    refine r_val ez5 ?_
    refine lv_iload_n hx hb dX9_hasEdge_12 rfl (lv_at hl 1 rfl) ?_
    obtain ⟨z6, bz6, x0z6, ez6⟩ := shr_ex z5 y (by omega)
    refine lv_ishr hx hb dX9_hasEdge_13 ?_
    refine r_val ez6 ?_
    refine lv_iconst (v := zI 1) hx hb dX9_hasEdge_14 rfl ?_
    obtain ⟨z7, bz7, x0z7, x1z7, ez7⟩ := and_ex z6 1 (by omega) (by omega)
    refine lv_iand hx hb dX9_hasEdge_15 ?_
    refine r_val ez7 ?_
    refine z_if_eq (tgt := 23) hx hb (by omega) dX9_hasEdge_16 (by decide) (fun c8 => ?_) (fun c8 => ?_)
    · refine lv_iconst (v := zI 0) hx hb dX9_hasEdge_23 rfl ?_
      rw [hQ]
      exact e_z F w hr hlocks (nar_z (by omega)) ⟨_, rfl, (by omega), (by omega), rfl⟩ dX9_hasEdge_24
    · refine lv_iconst (v := zI 1) hx hb dX9_hasEdge_19 rfl ?_
      refine lv_goto (tgt := 24) hx hb dX9_hasEdge_20 (by decide) ?_
      rw [hQ]
      exact e_z F w hr hlocks (nar_z (by omega)) ⟨_, rfl, (by omega), (by omega), rfl⟩ dX9_hasEdge_24
set_option maxRecDepth 4000 in
theorem q_X9_bare {l : Launch} {D : va_G} {B : Nat} {cy : Nat → ClassId} {M : Mem} {a : Nat} (hka : kd a = (9, 0, 0)) (hI : Inv M) : Ci l D B cy yX9_bare cX9_bare 3 (some .int) 0 0 [.ref (B + a)] M (fun r M1 => ∃ z : Int, r = zI z ∧ (0 ≤ z ∧ z ≤ 4095) ∧ M1 = M) := by
  refine s_anyQ (by decide) (Nat.le_of_ble_eq_true rfl) ?_
  intro p e s m args below meth c ls Q F hr hlocks hQ w hl
  have F : CallFix p m c cX9_bare 3 s args TB RX9 := F
  have hx := F.1
  have hb := F.2.1
  have hl : lv_has ls 3 [(0, .ref (B + a))] := hl
  refine lv_iconst (v := zI 0) hx hb dX9_bare_0 rfl ?_
  refine lv_istore_n (lv' := [(1, .int (zI 0)), (0, .ref (B + a))]) hx hb dX9_bare_1 rfl hl (by decide) rfl (fun ls hl => ?_)
  refine lv_iconst (v := zI 0) hx hb dX9_bare_2 rfl ?_
  refine lv_istore_n (lv' := [(2, .int (zI 0)), (1, .int (zI 0)), (0, .ref (B + a))]) hx hb dX9_bare_3 rfl hl (by decide) rfl (fun ls hl => ?_)
  have lp4 : ∀ (f : Nat) (v2_4 : Int) (v1_4 : Int), (0 ≤ v2_4 ∧ v2_4 ≤ 12) → (0 ≤ v1_4 ∧ v1_4 ≤ 4095) → (Int.toNat (12 - v2_4) < f) → ∀ (H : Heap) (locs : List Loc) (ls : Array Slot), Wd D B cy s s.heap M H locs → lv_has ls 3 [(2, .int (zI v2_4)), (1, .int (zI v1_4)), (0, .ref (B + a))] → W p l e (rmm 0 0) s m args below meth c H locs 0 0 Q (F0 m 4 ls []) := by
    intro f
    induction f with
    | zero => intros; omega
    | succ f ih4 =>
      intro v2_4 v1_4  iv2_4 iv1_4 hf4 H locs ls w hl
      refine lv_iload_n hx hb dX9_bare_4 rfl (lv_at hl 0 rfl) ?_
      refine lv_aload_n hx hb dX9_bare_5 rfl (lv_at hl 2 rfl) ?_
      refine f_9_0 F w (a := a) hka tb_0 dX9_bare_6 ?_
      obtain ⟨z1, bz1, ez1⟩ := Inv.ld (k := 0) hI (iv_w0 hka) (by have := lt_w hka; omega)
      refine r_val ez1 ?_
      refine z_icmp_ge (tgt := 27) hx hb (by omega) (by omega) dX9_bare_9 (by decide) (fun c2 => ?_) (fun c2 => ?_)
      · refine lv_iconst (v := zI 1) hx hb dX9_bare_27 rfl ?_
        refine lv_aload_n hx hb dX9_bare_28 rfl (lv_at hl 2 rfl) ?_
        refine f_9_1 F w (a := a) hka tb_1 dX9_bare_29 ?_
        obtain ⟨z3, bz3, ez3⟩ := Inv.ld (k := 1) hI (iv_w1 hka) (by have := lt_w hka; omega)
        refine r_val ez3 ?_
        obtain ⟨z4, bz4, x0z4, ez4⟩ := shl_ex 1 z3
        refine lv_ishl hx hb dX9_bare_32 ?_
        refine r_val ez4 ?_
        refine lv_iconst (v := zI 1) hx hb dX9_bare_33 rfl ?_
        refine z_isub (z := (z4 - 1)) hx hb dX9_bare_34 (by omega) ?_
        refine lv_iload_n hx hb dX9_bare_35 rfl (lv_at hl 1 rfl) ?_
        refine lv_iconst (v := zI (-1)) hx hb dX9_bare_36 rfl ?_
        refine lv_ixor hx hb dX9_bare_37 ?_
        refine r_val (not_ex v1_4) ?_
        obtain ⟨z5, bz5, x0z5, x1z5, ez5⟩ := and_ex (z4 - 1) (-v1_4 - 1) (by omega) (by omega)
        refine lv_iand hx hb dX9_bare_38 ?_
        refine r_val ez5 ?_
        rw [hQ]
        exact e_i F w hr hlocks ⟨_, rfl, (by omega), rfl⟩ dX9_bare_39
      · refine lv_iload_n hx hb dX9_bare_12 rfl (lv_at hl 1 rfl) ?_
        refine lv_aload_n hx hb dX9_bare_13 rfl (lv_at hl 2 rfl) ?_
        refine f_9_5 F w (a := a) hka tb_6 dX9_bare_14 ?_
        refine lv_iload_n hx hb dX9_bare_17 rfl (lv_at hl 0 rfl) ?_
        refine g_iald F w (a := (a + 2)) (kd_w2 hka) (j := (Int.toNat v2_4)) (ix_z (by omega) (by omega)) (by omega) dX9_bare_18 ?_
        obtain ⟨z6, bz6, ez6⟩ := Inv.ld (k := (Int.toNat v2_4)) hI (iv_wl hka _) (by have := lt_w hka; omega)
        refine r_val ez6 ?_
        obtain ⟨z7, bz7, x0z7, ez7⟩ := or_ex v1_4 z6
        refine lv_ior hx hb dX9_bare_19 ?_
        refine r_val ez7 ?_
        refine lv_istore_n (lv' := [(1, .int (zI z7)), (2, .int (zI v2_4)), (0, .ref (B + a))]) hx hb dX9_bare_20 rfl hl (by decide) rfl (fun ls hl => ?_)
        refine z_iinc (v := (v2_4 + 1)) (lv' := [(2, .int (zI (v2_4 + 1))), (1, .int (zI z7)), (0, .ref (B + a))]) hx hb dX9_bare_21 hl (k := 1) rfl (by omega) (by decide) rfl (fun ls hl => ?_)
        refine lv_goto (tgt := 4) hx hb dX9_bare_24 (by decide) ?_
        exact ih4 (v2_4 + 1) z7 (by omega) (by omega)     (by omega) _ _ _ w (lv_sub hl [0, 1, 2] rfl)
  exact lp4 _ 0 0 (by omega) (by omega) (Nat.lt_succ_self _) _ _ _ w (lv_sub hl [0, 1, 2] rfl)
set_option maxRecDepth 4000 in
theorem q_X9_isBare {l : Launch} {D : va_G} {B : Nat} {cy : Nat → ClassId} {M : Mem} {a : Nat} (hka : kd a = (9, 0, 0)) {y : Int} (hy : (-2147483648) ≤ y ∧ y ≤ 2147483647) (hI : Inv M) : Ci l D B cy yX9_isBare cX9_isBare 2 (some .boolean) 1 22 [.ref (B + a), .int (zI y)] M (fun r M1 => ∃ z : Int, r = zI z ∧ (0 ≤ z ∧ z ≤ 1) ∧ ((z = 0 ∨ (0 ≤ y ∧ y ≤ 11))) ∧ M1 = M) := by
  refine s_anyQ (by decide) (Nat.le_of_ble_eq_true rfl) ?_
  intro p e s m args below meth c ls Q F hr hlocks hQ w hl
  have F : CallFix p m c cX9_isBare 2 s args TB RX9 := F
  have hx := F.1
  have hb := F.2.1
  have hl : lv_has ls 2 [(0, .ref (B + a)), (1, .int (zI y))] := hl
  refine lv_aload_n hx hb dX9_isBare_0 rfl (lv_at hl 0 rfl) ?_
  refine lv_iload_n hx hb dX9_isBare_1 rfl (lv_at hl 1 rfl) ?_
  refine k_Vi F w (As := [.int (zI y)]) (rest := []) (a := a) (kd_lt (a := a) hka (by decide)) (sh_9 hka _ _) rfl (q_X9_hasSyllable (a := a) hka (y := y) (by omega)  hI) gv_X9_45 hv_X9_hasSyllable ⟨(Nat.le_of_ble_eq_true rfl), (Nat.le_of_ble_eq_true rfl)⟩ hl.1 rfl (Nat.le_of_ble_eq_true rfl) ⟨Nat.zero_le _, Nat.zero_le _⟩ dX9_isBare_2 (fun r1 N2 H locs hp w => ?_)
  obtain ⟨z3, rfl, bz3, xz3, hMN2⟩ := hp
  rw [hMN2] at w
  refine z_if_eq (tgt := 23) hx hb (by omega) dX9_isBare_5 (by decide) (fun c4 => ?_) (fun c4 => ?_)
  · refine lv_iconst (v := zI 0) hx hb dX9_isBare_23 rfl ?_
    rw [hQ]
    exact e_z F w hr hlocks (nar_z (by omega)) ⟨_, rfl, (by omega), (by omega), rfl⟩ dX9_isBare_24
  · refine lv_aload_n hx hb dX9_isBare_8 rfl (lv_at hl 0 rfl) ?_
    refine k_Vi F w (As := []) (rest := []) (a := a) (kd_lt (a := a) hka (by decide)) (sh_9 hka _ _) rfl (q_X9_bare (a := a) hka  hI) gv_X9_48 hv_X9_bare ⟨(Nat.le_of_ble_eq_true rfl), (Nat.le_of_ble_eq_true rfl)⟩ hl.1 rfl (Nat.le_of_ble_eq_true rfl) ⟨Nat.zero_le _, Nat.zero_le _⟩ dX9_isBare_9 (fun r5 N6 H locs hp w => ?_)
    obtain ⟨z7, rfl, bz7, hMN6⟩ := hp
    rw [hMN6] at w
    refine lv_iload_n hx hb dX9_isBare_12 rfl (lv_at hl 1 rfl) ?_
    obtain ⟨z8, bz8, x0z8, ez8⟩ := shr_ex z7 y (by omega)
    refine lv_ishr hx hb dX9_isBare_13 ?_
    refine r_val ez8 ?_
    refine lv_iconst (v := zI 1) hx hb dX9_isBare_14 rfl ?_
    obtain ⟨z9, bz9, x0z9, x1z9, ez9⟩ := and_ex z8 1 (by omega) (by omega)
    refine lv_iand hx hb dX9_isBare_15 ?_
    refine r_val ez9 ?_
    refine z_if_eq (tgt := 23) hx hb (by omega) dX9_isBare_16 (by decide) (fun c10 => ?_) (fun c10 => ?_)
    · refine lv_iconst (v := zI 0) hx hb dX9_isBare_23 rfl ?_
      rw [hQ]
      exact e_z F w hr hlocks (nar_z (by omega)) ⟨_, rfl, (by omega), (by omega), rfl⟩ dX9_isBare_24
    · refine lv_iconst (v := zI 1) hx hb dX9_isBare_19 rfl ?_
      refine lv_goto (tgt := 24) hx hb dX9_isBare_20 (by decide) ?_
      rw [hQ]
      exact e_z F w hr hlocks (nar_z (by omega)) ⟨_, rfl, (by omega), (by omega), rfl⟩ dX9_isBare_24
set_option maxRecDepth 4000 in
theorem q_X9_crossesNone {l : Launch} {D : va_G} {B : Nat} {cy : Nat → ClassId} {M : Mem} {a : Nat} (hka : kd a = (9, 0, 0)) {t : Int} (ht : (-2147483648) ≤ t ∧ t ≤ 2147483647) {u : Int} (hu : (-2147483648) ≤ u ∧ u ≤ 2147483647) {y : Int} (hy : 0 ≤ y ∧ y ≤ 11) (hI : Inv M) : Ci l D B cy yX9_crossesNone cX9_crossesNone 7 (some .boolean) 0 0 [.ref (B + a), .int (zI t), .int (zI u), .int (zI y)] M (fun r M1 => ∃ z : Int, r = zI z ∧ (0 ≤ z ∧ z ≤ 1) ∧ M1 = M) := by
  refine s_anyQ (by decide) (Nat.le_of_ble_eq_true rfl) ?_
  intro p e s m args below meth c ls Q F hr hlocks hQ w hl
  have F : CallFix p m c cX9_crossesNone 7 s args TB RX9 := F
  have hx := F.1
  have hb := F.2.1
  have hl : lv_has ls 7 [(0, .ref (B + a)), (1, .int (zI t)), (2, .int (zI u)), (3, .int (zI y))] := hl
  refine lv_iconst (v := zI 0) hx hb dX9_crossesNone_0 rfl ?_
  refine lv_istore (lv' := [(4, .int (zI 0)), (0, .ref (B + a)), (1, .int (zI t)), (2, .int (zI u)), (3, .int (zI y))]) hx hb dX9_crossesNone_1 hl (by decide) rfl (fun ls hl => ?_)
  refine lv_iconst (v := zI 0) hx hb dX9_crossesNone_3 rfl ?_
  refine lv_istore (lv' := [(5, .int (zI 0)), (4, .int (zI 0)), (0, .ref (B + a)), (1, .int (zI t)), (2, .int (zI u)), (3, .int (zI y))]) hx hb dX9_crossesNone_4 hl (by decide) rfl (fun ls hl => ?_)
  have lp6 : ∀ (f : Nat) (v5_6 : Int) (v4_6 : Int), (0 ≤ v5_6 ∧ v5_6 ≤ 12) → (0 ≤ v4_6 ∧ v4_6 ≤ 4095) → (Int.toNat (12 - v5_6) < f) → ∀ (H : Heap) (locs : List Loc) (ls : Array Slot), Wd D B cy s s.heap M H locs → lv_has ls 7 [(5, .int (zI v5_6)), (4, .int (zI v4_6)), (0, .ref (B + a)), (1, .int (zI t)), (2, .int (zI u)), (3, .int (zI y))] → W p l e (rmm 0 0) s m args below meth c H locs 0 0 Q (F0 m 6 ls []) := by
    intro f
    induction f with
    | zero => intros; omega
    | succ f ih6 =>
      intro v5_6 v4_6  iv5_6 iv4_6 hf6 H locs ls w hl
      refine lv_iload hx hb dX9_crossesNone_6 (lv_at hl 0 rfl) ?_
      refine lv_iload_n hx hb dX9_crossesNone_8 rfl (lv_at hl 3 rfl) ?_
      refine z_icmp_ge (tgt := 43) hx hb (by omega) (by omega) dX9_crossesNone_9 (by decide) (fun c1 => ?_) (fun c1 => ?_)
      · refine lv_iconst (v := zI 0) hx hb dX9_crossesNone_43 rfl ?_
        refine lv_istore (lv' := [(5, .int (zI 0)), (4, .int (zI v4_6)), (0, .ref (B + a)), (1, .int (zI t)), (2, .int (zI u)), (3, .int (zI y))]) hx hb dX9_crossesNone_44 hl (by decide) rfl (fun ls hl => ?_)
        refine lv_iload_n hx hb dX9_crossesNone_46 rfl (lv_at hl 4 rfl) ?_
        refine lv_istore (lv' := [(6, .int (zI u)), (5, .int (zI 0)), (4, .int (zI v4_6)), (0, .ref (B + a)), (1, .int (zI t)), (2, .int (zI u)), (3, .int (zI y))]) hx hb dX9_crossesNone_47 hl (by decide) rfl (fun ls hl => ?_)
        have lp49 : ∀ (f : Nat) (v6_49 : Int) (v5_49 : Int), ((-2147483648) ≤ v6_49 ∧ v6_49 ≤ 2147483647) → (0 ≤ v5_49 ∧ v5_49 ≤ 4095) → (Int.toNat (12 - v6_49) < f) → ∀ (H : Heap) (locs : List Loc) (ls : Array Slot), Wd D B cy s s.heap M H locs → lv_has ls 7 [(6, .int (zI v6_49)), (5, .int (zI v5_49)), (4, .int (zI v4_6)), (0, .ref (B + a)), (1, .int (zI t)), (2, .int (zI u)), (3, .int (zI y))] → W p l e (rmm 0 0) s m args below meth c H locs 0 0 Q (F0 m 49 ls []) := by
          intro f
          induction f with
          | zero => intros; omega
          | succ f ih49 =>
            intro v6_49 v5_49  iv6_49 iv5_49 hf49 H locs ls w hl
            refine lv_iload hx hb dX9_crossesNone_49 (lv_at hl 0 rfl) ?_
            refine z_if_lt (tgt := 87) hx hb (by omega) dX9_crossesNone_51 (by decide) (fun c2 => ?_) (fun c2 => ?_)
            · refine lv_iload hx hb dX9_crossesNone_87 (lv_at hl 2 rfl) ?_
              refine z_if_ne (tgt := 101) hx hb (by omega) dX9_crossesNone_89 (by decide) (fun c3 => ?_) (fun c3 => ?_)
              · refine lv_iconst (v := zI 0) hx hb dX9_crossesNone_101 rfl ?_
                rw [hQ]
                exact e_z F w hr hlocks (nar_z (by omega)) ⟨_, rfl, (by omega), rfl⟩ dX9_crossesNone_102
              · refine lv_iload hx hb dX9_crossesNone_92 (lv_at hl 1 rfl) ?_
                refine z_if_ne (tgt := 101) hx hb (by omega) dX9_crossesNone_94 (by decide) (fun c4 => ?_) (fun c4 => ?_)
                · refine lv_iconst (v := zI 0) hx hb dX9_crossesNone_101 rfl ?_
                  rw [hQ]
                  exact e_z F w hr hlocks (nar_z (by omega)) ⟨_, rfl, (by omega), rfl⟩ dX9_crossesNone_102
                · refine lv_iconst (v := zI 1) hx hb dX9_crossesNone_97 rfl ?_
                  refine lv_goto (tgt := 102) hx hb dX9_crossesNone_98 (by decide) ?_
                  rw [hQ]
                  exact e_z F w hr hlocks (nar_z (by omega)) ⟨_, rfl, (by omega), rfl⟩ dX9_crossesNone_102
            · refine lv_iload hx hb dX9_crossesNone_54 (lv_at hl 0 rfl) ?_
              refine lv_aload_n hx hb dX9_crossesNone_56 rfl (lv_at hl 3 rfl) ?_
              refine f_9_0 F w (a := a) hka tb_0 dX9_crossesNone_57 ?_
              obtain ⟨z5, bz5, ez5⟩ := Inv.ld (k := 0) hI (iv_w0 hka) (by have := lt_w hka; omega)
              refine r_val ez5 ?_
              refine z_icmp_ge (tgt := 87) hx hb (by omega) (by omega) dX9_crossesNone_60 (by decide) (fun c6 => ?_) (fun c6 => ?_)
              · refine lv_iload hx hb dX9_crossesNone_87 (lv_at hl 2 rfl) ?_
                refine z_if_ne (tgt := 101) hx hb (by omega) dX9_crossesNone_89 (by decide) (fun c7 => ?_) (fun c7 => ?_)
                · refine lv_iconst (v := zI 0) hx hb dX9_crossesNone_101 rfl ?_
                  rw [hQ]
                  exact e_z F w hr hlocks (nar_z (by omega)) ⟨_, rfl, (by omega), rfl⟩ dX9_crossesNone_102
                · refine lv_iload hx hb dX9_crossesNone_92 (lv_at hl 1 rfl) ?_
                  refine z_if_ne (tgt := 101) hx hb (by omega) dX9_crossesNone_94 (by decide) (fun c8 => ?_) (fun c8 => ?_)
                  · refine lv_iconst (v := zI 0) hx hb dX9_crossesNone_101 rfl ?_
                    rw [hQ]
                    exact e_z F w hr hlocks (nar_z (by omega)) ⟨_, rfl, (by omega), rfl⟩ dX9_crossesNone_102
                  · refine lv_iconst (v := zI 1) hx hb dX9_crossesNone_97 rfl ?_
                    refine lv_goto (tgt := 102) hx hb dX9_crossesNone_98 (by decide) ?_
                    rw [hQ]
                    exact e_z F w hr hlocks (nar_z (by omega)) ⟨_, rfl, (by omega), rfl⟩ dX9_crossesNone_102
              · refine lv_iload hx hb dX9_crossesNone_63 (lv_at hl 1 rfl) ?_
                refine lv_aload_n hx hb dX9_crossesNone_65 rfl (lv_at hl 3 rfl) ?_
                refine f_9_5 F w (a := a) hka tb_6 dX9_crossesNone_66 ?_
                refine lv_iload hx hb dX9_crossesNone_69 (lv_at hl 0 rfl) ?_
                refine g_iald F w (a := (a + 2)) (kd_w2 hka) (j := (Int.toNat v6_49)) (ix_z (by omega) (by omega)) (by omega) dX9_crossesNone_71 ?_
                obtain ⟨z9, bz9, ez9⟩ := Inv.ld (k := (Int.toNat v6_49)) hI (iv_wl hka _) (by have := lt_w hka; omega)
                refine r_val ez9 ?_
                refine lv_iconst (v := zI 1) hx hb dX9_crossesNone_72 rfl ?_
                refine lv_iload_n hx hb dX9_crossesNone_73 rfl (lv_at hl 6 rfl) ?_
                obtain ⟨z10, bz10, x0z10, ez10⟩ := shl_ex 1 y
                refine lv_ishl hx hb dX9_crossesNone_74 ?_
                refine r_val ez10 ?_
                refine lv_iconst (v := zI 1) hx hb dX9_crossesNone_75 rfl ?_
                refine z_isub (z := (z10 - 1)) hx hb dX9_crossesNone_76 (by omega) ?_
                obtain ⟨z11, bz11, x0z11, x1z11, ez11⟩ := and_ex z9 (z10 - 1) (by omega) (by omega)
                refine lv_iand hx hb dX9_crossesNone_77 ?_
                refine r_val ez11 ?_
                obtain ⟨z12, bz12, x0z12, ez12⟩ := or_ex v5_49 z11
                refine lv_ior hx hb dX9_crossesNone_78 ?_
                refine r_val ez12 ?_
                refine lv_istore (lv' := [(5, .int (zI z12)), (6, .int (zI v6_49)), (4, .int (zI v4_6)), (0, .ref (B + a)), (1, .int (zI t)), (2, .int (zI u)), (3, .int (zI y))]) hx hb dX9_crossesNone_79 hl (by decide) rfl (fun ls hl => ?_)
                refine z_iinc (v := (v6_49 + 1)) (lv' := [(6, .int (zI (v6_49 + 1))), (5, .int (zI z12)), (4, .int (zI v4_6)), (0, .ref (B + a)), (1, .int (zI t)), (2, .int (zI u)), (3, .int (zI y))]) hx hb dX9_crossesNone_81 hl (k := 1) rfl (by omega) (by decide) rfl (fun ls hl => ?_)
                refine lv_goto (tgt := 49) hx hb dX9_crossesNone_84 (by decide) ?_
                exact ih49 (v6_49 + 1) z12 (by omega) (by omega)     (by omega) _ _ _ w (lv_sub hl [0, 1, 2, 3, 4, 5, 6] rfl)
        exact lp49 _ u 0 (by omega) (by omega) (Nat.lt_succ_self _) _ _ _ w (lv_sub hl [0, 1, 2, 3, 4, 5, 6] rfl)
      · refine lv_iload hx hb dX9_crossesNone_12 (lv_at hl 0 rfl) ?_
        refine lv_aload_n hx hb dX9_crossesNone_14 rfl (lv_at hl 2 rfl) ?_
        refine f_9_0 F w (a := a) hka tb_0 dX9_crossesNone_15 ?_
        obtain ⟨z13, bz13, ez13⟩ := Inv.ld (k := 0) hI (iv_w0 hka) (by have := lt_w hka; omega)
        refine r_val ez13 ?_
        refine z_icmp_ge (tgt := 43) hx hb (by omega) (by omega) dX9_crossesNone_18 (by decide) (fun c14 => ?_) (fun c14 => ?_)
        · refine lv_iconst (v := zI 0) hx hb dX9_crossesNone_43 rfl ?_
          refine lv_istore (lv' := [(5, .int (zI 0)), (4, .int (zI v4_6)), (0, .ref (B + a)), (1, .int (zI t)), (2, .int (zI u)), (3, .int (zI y))]) hx hb dX9_crossesNone_44 hl (by decide) rfl (fun ls hl => ?_)
          refine lv_iload_n hx hb dX9_crossesNone_46 rfl (lv_at hl 4 rfl) ?_
          refine lv_istore (lv' := [(6, .int (zI u)), (5, .int (zI 0)), (4, .int (zI v4_6)), (0, .ref (B + a)), (1, .int (zI t)), (2, .int (zI u)), (3, .int (zI y))]) hx hb dX9_crossesNone_47 hl (by decide) rfl (fun ls hl => ?_)
          have lp49 : ∀ (f : Nat) (v6_49 : Int) (v5_49 : Int), ((-2147483648) ≤ v6_49 ∧ v6_49 ≤ 2147483647) → (0 ≤ v5_49 ∧ v5_49 ≤ 4095) → (Int.toNat (12 - v6_49) < f) → ∀ (H : Heap) (locs : List Loc) (ls : Array Slot), Wd D B cy s s.heap M H locs → lv_has ls 7 [(6, .int (zI v6_49)), (5, .int (zI v5_49)), (4, .int (zI v4_6)), (0, .ref (B + a)), (1, .int (zI t)), (2, .int (zI u)), (3, .int (zI y))] → W p l e (rmm 0 0) s m args below meth c H locs 0 0 Q (F0 m 49 ls []) := by
            intro f
            induction f with
            | zero => intros; omega
            | succ f ih49 =>
              intro v6_49 v5_49  iv6_49 iv5_49 hf49 H locs ls w hl
              refine lv_iload hx hb dX9_crossesNone_49 (lv_at hl 0 rfl) ?_
              refine z_if_lt (tgt := 87) hx hb (by omega) dX9_crossesNone_51 (by decide) (fun c15 => ?_) (fun c15 => ?_)
              · refine lv_iload hx hb dX9_crossesNone_87 (lv_at hl 2 rfl) ?_
                refine z_if_ne (tgt := 101) hx hb (by omega) dX9_crossesNone_89 (by decide) (fun c16 => ?_) (fun c16 => ?_)
                · refine lv_iconst (v := zI 0) hx hb dX9_crossesNone_101 rfl ?_
                  rw [hQ]
                  exact e_z F w hr hlocks (nar_z (by omega)) ⟨_, rfl, (by omega), rfl⟩ dX9_crossesNone_102
                · refine lv_iload hx hb dX9_crossesNone_92 (lv_at hl 1 rfl) ?_
                  refine z_if_ne (tgt := 101) hx hb (by omega) dX9_crossesNone_94 (by decide) (fun c17 => ?_) (fun c17 => ?_)
                  · refine lv_iconst (v := zI 0) hx hb dX9_crossesNone_101 rfl ?_
                    rw [hQ]
                    exact e_z F w hr hlocks (nar_z (by omega)) ⟨_, rfl, (by omega), rfl⟩ dX9_crossesNone_102
                  · refine lv_iconst (v := zI 1) hx hb dX9_crossesNone_97 rfl ?_
                    refine lv_goto (tgt := 102) hx hb dX9_crossesNone_98 (by decide) ?_
                    rw [hQ]
                    exact e_z F w hr hlocks (nar_z (by omega)) ⟨_, rfl, (by omega), rfl⟩ dX9_crossesNone_102
              · refine lv_iload hx hb dX9_crossesNone_54 (lv_at hl 0 rfl) ?_
                refine lv_aload_n hx hb dX9_crossesNone_56 rfl (lv_at hl 3 rfl) ?_
                refine f_9_0 F w (a := a) hka tb_0 dX9_crossesNone_57 ?_
                refine r_val (v := zI z13) (ez13) ?_
                refine z_icmp_ge (tgt := 87) hx hb (by omega) (by omega) dX9_crossesNone_60 (by decide) (fun c18 => ?_) (fun c18 => ?_)
                · refine lv_iload hx hb dX9_crossesNone_87 (lv_at hl 2 rfl) ?_
                  refine z_if_ne (tgt := 101) hx hb (by omega) dX9_crossesNone_89 (by decide) (fun c19 => ?_) (fun c19 => ?_)
                  · refine lv_iconst (v := zI 0) hx hb dX9_crossesNone_101 rfl ?_
                    rw [hQ]
                    exact e_z F w hr hlocks (nar_z (by omega)) ⟨_, rfl, (by omega), rfl⟩ dX9_crossesNone_102
                  · refine lv_iload hx hb dX9_crossesNone_92 (lv_at hl 1 rfl) ?_
                    refine z_if_ne (tgt := 101) hx hb (by omega) dX9_crossesNone_94 (by decide) (fun c20 => ?_) (fun c20 => ?_)
                    · refine lv_iconst (v := zI 0) hx hb dX9_crossesNone_101 rfl ?_
                      rw [hQ]
                      exact e_z F w hr hlocks (nar_z (by omega)) ⟨_, rfl, (by omega), rfl⟩ dX9_crossesNone_102
                    · refine lv_iconst (v := zI 1) hx hb dX9_crossesNone_97 rfl ?_
                      refine lv_goto (tgt := 102) hx hb dX9_crossesNone_98 (by decide) ?_
                      rw [hQ]
                      exact e_z F w hr hlocks (nar_z (by omega)) ⟨_, rfl, (by omega), rfl⟩ dX9_crossesNone_102
                · refine lv_iload hx hb dX9_crossesNone_63 (lv_at hl 1 rfl) ?_
                  refine lv_aload_n hx hb dX9_crossesNone_65 rfl (lv_at hl 3 rfl) ?_
                  refine f_9_5 F w (a := a) hka tb_6 dX9_crossesNone_66 ?_
                  refine lv_iload hx hb dX9_crossesNone_69 (lv_at hl 0 rfl) ?_
                  refine g_iald F w (a := (a + 2)) (kd_w2 hka) (j := (Int.toNat v6_49)) (ix_z (by omega) (by omega)) (by omega) dX9_crossesNone_71 ?_
                  obtain ⟨z21, bz21, ez21⟩ := Inv.ld (k := (Int.toNat v6_49)) hI (iv_wl hka _) (by have := lt_w hka; omega)
                  refine r_val ez21 ?_
                  refine lv_iconst (v := zI 1) hx hb dX9_crossesNone_72 rfl ?_
                  refine lv_iload_n hx hb dX9_crossesNone_73 rfl (lv_at hl 6 rfl) ?_
                  obtain ⟨z22, bz22, x0z22, ez22⟩ := shl_ex 1 y
                  refine lv_ishl hx hb dX9_crossesNone_74 ?_
                  refine r_val ez22 ?_
                  refine lv_iconst (v := zI 1) hx hb dX9_crossesNone_75 rfl ?_
                  refine z_isub (z := (z22 - 1)) hx hb dX9_crossesNone_76 (by omega) ?_
                  obtain ⟨z23, bz23, x0z23, x1z23, ez23⟩ := and_ex z21 (z22 - 1) (by omega) (by omega)
                  refine lv_iand hx hb dX9_crossesNone_77 ?_
                  refine r_val ez23 ?_
                  obtain ⟨z24, bz24, x0z24, ez24⟩ := or_ex v5_49 z23
                  refine lv_ior hx hb dX9_crossesNone_78 ?_
                  refine r_val ez24 ?_
                  refine lv_istore (lv' := [(5, .int (zI z24)), (6, .int (zI v6_49)), (4, .int (zI v4_6)), (0, .ref (B + a)), (1, .int (zI t)), (2, .int (zI u)), (3, .int (zI y))]) hx hb dX9_crossesNone_79 hl (by decide) rfl (fun ls hl => ?_)
                  refine z_iinc (v := (v6_49 + 1)) (lv' := [(6, .int (zI (v6_49 + 1))), (5, .int (zI z24)), (4, .int (zI v4_6)), (0, .ref (B + a)), (1, .int (zI t)), (2, .int (zI u)), (3, .int (zI y))]) hx hb dX9_crossesNone_81 hl (k := 1) rfl (by omega) (by decide) rfl (fun ls hl => ?_)
                  refine lv_goto (tgt := 49) hx hb dX9_crossesNone_84 (by decide) ?_
                  exact ih49 (v6_49 + 1) z24 (by omega) (by omega)     (by omega) _ _ _ w (lv_sub hl [0, 1, 2, 3, 4, 5, 6] rfl)
          exact lp49 _ u 0 (by omega) (by omega) (Nat.lt_succ_self _) _ _ _ w (lv_sub hl [0, 1, 2, 3, 4, 5, 6] rfl)
        · refine lv_iload hx hb dX9_crossesNone_21 (lv_at hl 1 rfl) ?_
          refine lv_aload_n hx hb dX9_crossesNone_23 rfl (lv_at hl 2 rfl) ?_
          refine f_9_5 F w (a := a) hka tb_6 dX9_crossesNone_24 ?_
          refine lv_iload hx hb dX9_crossesNone_27 (lv_at hl 0 rfl) ?_
          refine g_iald F w (a := (a + 2)) (kd_w2 hka) (j := (Int.toNat v5_6)) (ix_z (by omega) (by omega)) (by omega) dX9_crossesNone_29 ?_
          obtain ⟨z25, bz25, ez25⟩ := Inv.ld (k := (Int.toNat v5_6)) hI (iv_wl hka _) (by have := lt_w hka; omega)
          refine r_val ez25 ?_
          refine lv_iload_n hx hb dX9_crossesNone_30 rfl (lv_at hl 5 rfl) ?_
          obtain ⟨z26, bz26, x0z26, ez26⟩ := shr_ex z25 y (by omega)
          refine lv_ishr hx hb dX9_crossesNone_31 ?_
          refine r_val ez26 ?_
          refine lv_iconst (v := zI 1) hx hb dX9_crossesNone_32 rfl ?_
          obtain ⟨z27, bz27, x0z27, ez27⟩ := shr_ex z26 1 (by omega)
          refine lv_ishr hx hb dX9_crossesNone_33 ?_
          refine r_val ez27 ?_
          obtain ⟨z28, bz28, x0z28, ez28⟩ := or_ex v4_6 z27
          refine lv_ior hx hb dX9_crossesNone_34 ?_
          refine r_val ez28 ?_
          refine lv_istore (lv' := [(4, .int (zI z28)), (5, .int (zI v5_6)), (0, .ref (B + a)), (1, .int (zI t)), (2, .int (zI u)), (3, .int (zI y))]) hx hb dX9_crossesNone_35 hl (by decide) rfl (fun ls hl => ?_)
          refine z_iinc (v := (v5_6 + 1)) (lv' := [(5, .int (zI (v5_6 + 1))), (4, .int (zI z28)), (0, .ref (B + a)), (1, .int (zI t)), (2, .int (zI u)), (3, .int (zI y))]) hx hb dX9_crossesNone_37 hl (k := 1) rfl (by omega) (by decide) rfl (fun ls hl => ?_)
          refine lv_goto (tgt := 6) hx hb dX9_crossesNone_40 (by decide) ?_
          exact ih6 (v5_6 + 1) z28 (by omega) (by omega)     (by omega) _ _ _ w (lv_sub hl [0, 1, 2, 3, 4, 5] rfl)
  exact lp6 _ 0 0 (by omega) (by omega) (Nat.lt_succ_self _) _ _ _ w (lv_sub hl [0, 1, 2, 3, 4, 5] rfl)
set_option maxRecDepth 4000 in
theorem q_X9_isOpen {l : Launch} {D : va_G} {B : Nat} {cy : Nat → ClassId} {M : Mem} {a : Nat} (hka : kd a = (9, 0, 0)) {t : Int} (ht : (-2147483648) ≤ t ∧ t ≤ 2147483647) {y : Int} (hy : (-2147483648) ≤ y ∧ y ≤ 2147483647) (hI : Inv M) : Ci l D B cy yX9_isOpen cX9_isOpen 3 (some .boolean) 1 26 [.ref (B + a), .int (zI t), .int (zI y)] M (fun r M1 => ∃ z : Int, r = zI z ∧ (0 ≤ z ∧ z ≤ 1) ∧ ((z = 0 ∨ (0 ≤ t ∧ t ≤ 11)) ∧ (z = 0 ∨ (0 ≤ y ∧ y ≤ 11))) ∧ M1 = M) := by
  refine s_anyQ (by decide) (Nat.le_of_ble_eq_true rfl) ?_
  intro p e s m args below meth c ls Q F hr hlocks hQ w hl
  have F : CallFix p m c cX9_isOpen 3 s args TB RX9 := F
  have hx := F.1
  have hb := F.2.1
  have hl : lv_has ls 3 [(0, .ref (B + a)), (1, .int (zI t)), (2, .int (zI y))] := hl
  refine lv_aload_n hx hb dX9_isOpen_0 rfl (lv_at hl 0 rfl) ?_
  refine lv_iload_n hx hb dX9_isOpen_1 rfl (lv_at hl 1 rfl) ?_
  obtain ⟨z1, bz1, ez1⟩ := Inv.ld (k := 0) hI (iv_w0 hka) (by have := lt_w hka; omega)
  refine k_Vi F w (As := [.int (zI t)]) (rest := []) (a := a) (kd_lt (a := a) hka (by decide)) (sh_9 hka _ _) rfl (q_X9_hasTone (a := a) hka (t := t) (by omega) (nn := z1) (ez1) (by omega)  hI) gv_X9_41 hv_X9_hasTone ⟨(Nat.le_of_ble_eq_true rfl), (Nat.le_of_ble_eq_true rfl)⟩ hl.1 rfl (Nat.le_of_ble_eq_true rfl) ⟨Nat.zero_le _, Nat.zero_le _⟩ dX9_isOpen_2 (fun r2 N3 H locs hp w => ?_)
  obtain ⟨z4, rfl, bz4, xz4, hMN3⟩ := hp
  rw [hMN3] at w
  refine z_if_eq (tgt := 45) hx hb (by omega) dX9_isOpen_5 (by decide) (fun c5 => ?_) (fun c5 => ?_)
  · refine lv_iconst (v := zI 0) hx hb dX9_isOpen_45 rfl ?_
    rw [hQ]
    exact e_z F w hr hlocks (nar_z (by omega)) ⟨_, rfl, (by omega), (by omega), rfl⟩ dX9_isOpen_46
  · refine lv_aload_n hx hb dX9_isOpen_8 rfl (lv_at hl 0 rfl) ?_
    refine lv_iload_n hx hb dX9_isOpen_9 rfl (lv_at hl 2 rfl) ?_
    refine k_Vi F w (As := [.int (zI y)]) (rest := []) (a := a) (kd_lt (a := a) hka (by decide)) (sh_9 hka _ _) rfl (q_X9_hasSyllable (a := a) hka (y := y) (by omega)  hI) gv_X9_45 hv_X9_hasSyllable ⟨(Nat.le_of_ble_eq_true rfl), (Nat.le_of_ble_eq_true rfl)⟩ hl.1 rfl (Nat.le_of_ble_eq_true rfl) ⟨Nat.zero_le _, Nat.zero_le _⟩ dX9_isOpen_10 (fun r6 N7 H locs hp w => ?_)
    obtain ⟨z8, rfl, bz8, xz8, hMN7⟩ := hp
    rw [hMN7] at w
    refine z_if_eq (tgt := 45) hx hb (by omega) dX9_isOpen_13 (by decide) (fun c9 => ?_) (fun c9 => ?_)
    · refine lv_iconst (v := zI 0) hx hb dX9_isOpen_45 rfl ?_
      rw [hQ]
      exact e_z F w hr hlocks (nar_z (by omega)) ⟨_, rfl, (by omega), (by omega), rfl⟩ dX9_isOpen_46
    · refine lv_aload_n hx hb dX9_isOpen_16 rfl (lv_at hl 0 rfl) ?_
      refine f_9_5 F w (a := a) hka tb_6 dX9_isOpen_17 ?_
      refine lv_iload_n hx hb dX9_isOpen_20 rfl (lv_at hl 1 rfl) ?_
      refine g_iald F w (a := (a + 2)) (kd_w2 hka) (j := (Int.toNat t)) (ix_z (by omega) (by omega)) (by omega) dX9_isOpen_21 ?_
      obtain ⟨z10, bz10, ez10⟩ := Inv.ld (k := (Int.toNat t)) hI (iv_wl hka _) (by have := lt_w hka; omega)
      refine r_val ez10 ?_
      refine lv_iload_n hx hb dX9_isOpen_22 rfl (lv_at hl 2 rfl) ?_
      obtain ⟨z11, bz11, x0z11, ez11⟩ := shr_ex z10 y (by omega)
      refine lv_ishr hx hb dX9_isOpen_23 ?_
      refine r_val ez11 ?_
      refine lv_iconst (v := zI 1) hx hb dX9_isOpen_24 rfl ?_
      obtain ⟨z12, bz12, x0z12, x1z12, ez12⟩ := and_ex z11 1 (by omega) (by omega)
      refine lv_iand hx hb dX9_isOpen_25 ?_
      refine r_val ez12 ?_
      refine z_if_ne (tgt := 45) hx hb (by omega) dX9_isOpen_26 (by decide) (fun c13 => ?_) (fun c13 => ?_)
      · refine lv_iconst (v := zI 0) hx hb dX9_isOpen_45 rfl ?_
        rw [hQ]
        exact e_z F w hr hlocks (nar_z (by omega)) ⟨_, rfl, (by omega), (by omega), rfl⟩ dX9_isOpen_46
      · refine lv_aload_n hx hb dX9_isOpen_29 rfl (lv_at hl 0 rfl) ?_
        refine lv_iload_n hx hb dX9_isOpen_30 rfl (lv_at hl 1 rfl) ?_
        refine lv_iload_n hx hb dX9_isOpen_31 rfl (lv_at hl 1 rfl) ?_
        refine lv_iconst (v := zI 1) hx hb dX9_isOpen_32 rfl ?_
        refine z_iadd (z := (t + 1)) hx hb dX9_isOpen_33 (by omega) ?_
        refine lv_iload_n hx hb dX9_isOpen_34 rfl (lv_at hl 2 rfl) ?_
        refine k_Vi F w (As := [.int (zI t), .int (zI (t + 1)), .int (zI y)]) (rest := []) (a := a) (kd_lt (a := a) hka (by decide)) (sh_9 hka _ _) rfl (q_X9_crossesNone (a := a) hka (t := t) (by omega) (u := (t + 1)) (by omega) (y := y) (by omega)  hI) gv_X9_52 hv_X9_crossesNone ⟨(Nat.le_of_ble_eq_true rfl), (Nat.le_of_ble_eq_true rfl)⟩ hl.1 rfl (Nat.le_of_ble_eq_true rfl) ⟨Nat.zero_le _, Nat.zero_le _⟩ dX9_isOpen_35 (fun r14 N15 H locs hp w => ?_)
        obtain ⟨z16, rfl, bz16, hMN15⟩ := hp
        rw [hMN15] at w
        refine z_if_eq (tgt := 45) hx hb (by omega) dX9_isOpen_38 (by decide) (fun c17 => ?_) (fun c17 => ?_)
        · refine lv_iconst (v := zI 0) hx hb dX9_isOpen_45 rfl ?_
          rw [hQ]
          exact e_z F w hr hlocks (nar_z (by omega)) ⟨_, rfl, (by omega), (by omega), rfl⟩ dX9_isOpen_46
        · refine lv_iconst (v := zI 1) hx hb dX9_isOpen_41 rfl ?_
          refine lv_goto (tgt := 46) hx hb dX9_isOpen_42 (by decide) ?_
          rw [hQ]
          exact e_z F w hr hlocks (nar_z (by omega)) ⟨_, rfl, (by omega), (by omega), rfl⟩ dX9_isOpen_46
set_option maxRecDepth 4000 in
theorem q_X9_kindOf {l : Launch} {D : va_G} {B : Nat} {cy : Nat → ClassId} {M : Mem} {a : Nat} (hka : kd a = (9, 0, 0)) {t : Int} (ht : (-2147483648) ≤ t ∧ t ≤ 2147483647) (hI : Inv M) : Ci l D B cy yX9_kindOf cX9_kindOf 2 (some .int) 1 21 [.ref (B + a), .int (zI t)] M (fun r M1 => ∃ z : Int, r = zI z ∧ ((-2) ≤ z ∧ z ≤ 99) ∧ M1 = M) := by
  refine s_anyQ (by decide) (Nat.le_of_ble_eq_true rfl) ?_
  intro p e s m args below meth c ls Q F hr hlocks hQ w hl
  have F : CallFix p m c cX9_kindOf 2 s args TB RX9 := F
  have hx := F.1
  have hb := F.2.1
  have hl : lv_has ls 2 [(0, .ref (B + a)), (1, .int (zI t))] := hl
  refine lv_aload_n hx hb dX9_kindOf_0 rfl (lv_at hl 0 rfl) ?_
  refine lv_iload_n hx hb dX9_kindOf_1 rfl (lv_at hl 1 rfl) ?_
  obtain ⟨z1, bz1, ez1⟩ := Inv.ld (k := 0) hI (iv_w0 hka) (by have := lt_w hka; omega)
  refine k_Vi F w (As := [.int (zI t)]) (rest := []) (a := a) (kd_lt (a := a) hka (by decide)) (sh_9 hka _ _) rfl (q_X9_hasTone (a := a) hka (t := t) (by omega) (nn := z1) (ez1) (by omega)  hI) gv_X9_41 hv_X9_hasTone ⟨(Nat.le_of_ble_eq_true rfl), (Nat.le_of_ble_eq_true rfl)⟩ hl.1 rfl (Nat.le_of_ble_eq_true rfl) ⟨Nat.zero_le _, Nat.zero_le _⟩ dX9_kindOf_2 (fun r2 N3 H locs hp w => ?_)
  obtain ⟨z4, rfl, bz4, xz4, hMN3⟩ := hp
  rw [hMN3] at w
  refine z_if_eq (tgt := 17) hx hb (by omega) dX9_kindOf_5 (by decide) (fun c5 => ?_) (fun c5 => ?_)
  · refine lv_iconst (v := zI (-1)) hx hb dX9_kindOf_17 rfl ?_
    rw [hQ]
    exact e_i F w hr hlocks ⟨_, rfl, (by omega), rfl⟩ dX9_kindOf_18
  · refine lv_aload_n hx hb dX9_kindOf_8 rfl (lv_at hl 0 rfl) ?_
    refine f_9_4 F w (a := a) hka tb_7 dX9_kindOf_9 ?_
    refine lv_iload_n hx hb dX9_kindOf_12 rfl (lv_at hl 1 rfl) ?_
    refine g_iald F w (a := (a + 1)) (kd_w1 hka) (j := (Int.toNat t)) (ix_z (by omega) (by omega)) (by omega) dX9_kindOf_13 ?_
    obtain ⟨z6, bz6, ez6⟩ := Inv.ld (k := (Int.toNat t)) hI (iv_wk hka _) (by have := lt_w hka; omega)
    refine r_val ez6 ?_
    refine lv_goto (tgt := 18) hx hb dX9_kindOf_14 (by decide) ?_
    rw [hQ]
    exact e_i F w hr hlocks ⟨_, rfl, (by omega), rfl⟩ dX9_kindOf_18
set_option maxRecDepth 4000 in
theorem q_X9_linesFrom {l : Launch} {D : va_G} {B : Nat} {cy : Nat → ClassId} {M : Mem} {a : Nat} (hka : kd a = (9, 0, 0)) {t : Int} (ht : (-2147483648) ≤ t ∧ t ≤ 2147483647) (hI : Inv M) : Ci l D B cy yX9_linesFrom cX9_linesFrom 2 (some .int) 1 21 [.ref (B + a), .int (zI t)] M (fun r M1 => ∃ z : Int, r = zI z ∧ (0 ≤ z ∧ z ≤ 4095) ∧ M1 = M) := by
  refine s_anyQ (by decide) (Nat.le_of_ble_eq_true rfl) ?_
  intro p e s m args below meth c ls Q F hr hlocks hQ w hl
  have F : CallFix p m c cX9_linesFrom 2 s args TB RX9 := F
  have hx := F.1
  have hb := F.2.1
  have hl : lv_has ls 2 [(0, .ref (B + a)), (1, .int (zI t))] := hl
  refine lv_aload_n hx hb dX9_linesFrom_0 rfl (lv_at hl 0 rfl) ?_
  refine lv_iload_n hx hb dX9_linesFrom_1 rfl (lv_at hl 1 rfl) ?_
  obtain ⟨z1, bz1, ez1⟩ := Inv.ld (k := 0) hI (iv_w0 hka) (by have := lt_w hka; omega)
  refine k_Vi F w (As := [.int (zI t)]) (rest := []) (a := a) (kd_lt (a := a) hka (by decide)) (sh_9 hka _ _) rfl (q_X9_hasTone (a := a) hka (t := t) (by omega) (nn := z1) (ez1) (by omega)  hI) gv_X9_41 hv_X9_hasTone ⟨(Nat.le_of_ble_eq_true rfl), (Nat.le_of_ble_eq_true rfl)⟩ hl.1 rfl (Nat.le_of_ble_eq_true rfl) ⟨Nat.zero_le _, Nat.zero_le _⟩ dX9_linesFrom_2 (fun r2 N3 H locs hp w => ?_)
  obtain ⟨z4, rfl, bz4, xz4, hMN3⟩ := hp
  rw [hMN3] at w
  refine z_if_eq (tgt := 17) hx hb (by omega) dX9_linesFrom_5 (by decide) (fun c5 => ?_) (fun c5 => ?_)
  · refine lv_iconst (v := zI 0) hx hb dX9_linesFrom_17 rfl ?_
    rw [hQ]
    exact e_i F w hr hlocks ⟨_, rfl, (by omega), rfl⟩ dX9_linesFrom_18
  · refine lv_aload_n hx hb dX9_linesFrom_8 rfl (lv_at hl 0 rfl) ?_
    refine f_9_5 F w (a := a) hka tb_6 dX9_linesFrom_9 ?_
    refine lv_iload_n hx hb dX9_linesFrom_12 rfl (lv_at hl 1 rfl) ?_
    refine g_iald F w (a := (a + 2)) (kd_w2 hka) (j := (Int.toNat t)) (ix_z (by omega) (by omega)) (by omega) dX9_linesFrom_13 ?_
    obtain ⟨z6, bz6, ez6⟩ := Inv.ld (k := (Int.toNat t)) hI (iv_wl hka _) (by have := lt_w hka; omega)
    refine r_val ez6 ?_
    refine lv_goto (tgt := 18) hx hb dX9_linesFrom_14 (by decide) ?_
    rw [hQ]
    exact e_i F w hr hlocks ⟨_, rfl, (by omega), rfl⟩ dX9_linesFrom_18
theorem dX9_insertTone_21 : decode cX9_insertTone 21 = .ok (.return_, 1) := dq0 kk_177 (by decide +kernel)
set_option maxRecDepth 4000 in
theorem q_X9_insertTone {l : Launch} {D : va_G} {B : Nat} {cy : Nat → ClassId} {M : Mem} {a : Nat} (hka : kd a = (9, 0, 0)) {t : Int} (ht : (-2147483648) ≤ t ∧ t ≤ 2147483647) {x : Int} (hx : (-2) ≤ x ∧ x ≤ 99) (hI : Inv M) : Cv l D B cy yX9_insertTone cX9_insertTone 4 0 0 [.ref (B + a), .int (zI t), .int (zI x)] M (fun M1 => Inv M1 ∧ Fr (fun b9 k9 => b9 = (a + 1) ∨ b9 = (a + 2) ∨ b9 = a) M1 M) := by
  refine s_anyQ (by decide) (Nat.le_of_ble_eq_true rfl) ?_
  intro p e s m args below meth c ls Q F hr hlocks hQ w hl
  have F : CallFix p m c cX9_insertTone 4 s args TB RX9 := F
  have hx := F.1
  have hb := F.2.1
  have hl : lv_has ls 4 [(0, .ref (B + a)), (1, .int (zI t)), (2, .int (zI x))] := hl
  have hF : Fr (fun b9 k9 => b9 = (a + 1) ∨ b9 = (a + 2) ∨ b9 = a) M M := Fr.rf
  refine lv_iload_n hx hb dX9_insertTone_0 rfl (lv_at hl 1 rfl) ?_
  refine z_if_lt (tgt := 21) hx hb (by omega) dX9_insertTone_1 (by decide) (fun c1 => ?_) (fun c1 => ?_)
  · rw [hQ]
    exact e_v F w hr hlocks ⟨hI, hF⟩ dX9_insertTone_21
  · refine lv_iload_n hx hb dX9_insertTone_4 rfl (lv_at hl 1 rfl) ?_
    refine lv_aload_n hx hb dX9_insertTone_5 rfl (lv_at hl 0 rfl) ?_
    refine f_9_0 F w (a := a) hka tb_0 dX9_insertTone_6 ?_
    obtain ⟨z2, bz2, ez2⟩ := Inv.ld (k := 0) hI (iv_w0 hka) (by have := lt_w hka; omega)
    refine r_val ez2 ?_
    refine z_icmp_gt (tgt := 21) hx hb (by omega) (by omega) dX9_insertTone_9 (by decide) (fun c3 => ?_) (fun c3 => ?_)
    · rw [hQ]
      exact e_v F w hr hlocks ⟨hI, hF⟩ dX9_insertTone_21
    · refine lv_aload_n hx hb dX9_insertTone_12 rfl (lv_at hl 0 rfl) ?_
      refine f_9_0 F w (a := a) hka tb_0 dX9_insertTone_13 ?_
      refine r_val (v := zI z2) (ez2) ?_
      refine lv_bipush (v := zI 12) hx hb dX9_insertTone_16 (by decide) ?_
      refine z_icmp_lt (tgt := 22) hx hb (by omega) (by omega) dX9_insertTone_18 (by decide) (fun c4 => ?_) (fun c4 => ?_)
      · refine lv_aload_n hx hb dX9_insertTone_22 rfl (lv_at hl 0 rfl) ?_
        refine f_9_0 F w (a := a) hka tb_0 dX9_insertTone_23 ?_
        refine r_val (v := zI z2) (ez2) ?_
        refine lv_istore_n (lv' := [(3, .int (zI z2)), (0, .ref (B + a)), (1, .int (zI t)), (2, .int (zI x))]) hx hb dX9_insertTone_26 rfl hl (by decide) rfl (fun ls hl => ?_)
        have lp27 : ∀ (f : Nat) (v3_27 : Int)  (NL27 : Mem), (0 ≤ v3_27 ∧ v3_27 ≤ 11) → NL27.1 a 0 = zI z2 → Inv NL27 → Fr (fun b9 k9 => b9 = (a + 1) ∨ b9 = (a + 2) ∨ b9 = a) NL27 M → (Int.toNat (v3_27 - 0) < f) → ∀ (H : Heap) (locs : List Loc) (ls : Array Slot), Wd D B cy s s.heap NL27 H locs → lv_has ls 4 [(3, .int (zI v3_27)), (0, .ref (B + a)), (1, .int (zI t)), (2, .int (zI x))] → W p l e (rmm 0 0) s m args below meth c H locs 0 0 Q (F0 m 27 ls []) := by
          intro f
          induction f with
          | zero => intros; omega
          | succ f ih27 =>
            intro v3_27  NL27 iv3_27 ega_0_27 hIL27 hFL27 hf27 H locs ls w hl
            refine lv_iload_n hx hb dX9_insertTone_27 rfl (lv_at hl 0 rfl) ?_
            refine lv_iload_n hx hb dX9_insertTone_28 rfl (lv_at hl 2 rfl) ?_
            refine z_icmp_le (tgt := 66) hx hb (by omega) (by omega) dX9_insertTone_29 (by decide) (fun c5 => ?_) (fun c5 => ?_)
            · refine lv_aload_n hx hb dX9_insertTone_66 rfl (lv_at hl 1 rfl) ?_
              refine f_9_4 F w (a := a) hka tb_7 dX9_insertTone_67 ?_
              refine lv_iload_n hx hb dX9_insertTone_70 rfl (lv_at hl 2 rfl) ?_
              refine lv_iload_n hx hb dX9_insertTone_71 rfl (lv_at hl 3 rfl) ?_
              refine g_iast F w (a := (a + 1)) (kd_w1 hka) (j := (Int.toNat t)) (ix_z (by omega) (by omega)) (by omega) dX9_insertTone_72 (fun H locs w => ?_)
              refine lv_aload_n hx hb dX9_insertTone_73 rfl (lv_at hl 1 rfl) ?_
              refine f_9_5 F w (a := a) hka tb_6 dX9_insertTone_74 ?_
              refine lv_iload_n hx hb dX9_insertTone_77 rfl (lv_at hl 2 rfl) ?_
              refine lv_iconst (v := zI 0) hx hb dX9_insertTone_78 rfl ?_
              refine g_iast F w (a := (a + 2)) (kd_w2 hka) (j := (Int.toNat t)) (ix_z (by omega) (by omega)) (by omega) dX9_insertTone_79 (fun H locs w => ?_)
              refine lv_aload_n hx hb dX9_insertTone_80 rfl (lv_at hl 1 rfl) ?_
              refine lv_dup hx hb dX9_insertTone_81 rfl ?_
              refine f_9_0 F w (a := a) hka tb_0 dX9_insertTone_82 ?_
              refine r_val (v := zI z2) ((st_ne (Or.inl (by omega))).trans ((st_ne (Or.inl (by omega))).trans ega_0_27)) ?_
              refine lv_iconst (v := zI 1) hx hb dX9_insertTone_85 rfl ?_
              refine z_iadd (z := (z2 + 1)) hx hb dX9_insertTone_86 (by omega) ?_
              refine u_9_0 F w (a := a) hka tb_0 dX9_insertTone_87 (fun H locs w => ?_)
              rw [hQ]
              exact e_v F w hr hlocks ⟨(Inv.to (Inv.to (Inv.to hIL27 (a := (a + 1)) (k := (Int.toNat t)) (x := x) (iv_wk hka _) (by omega)) (a := (a + 2)) (k := (Int.toNat t)) (x := 0) (iv_wl hka _) (by omega)) (a := a) (k := 0) (x := (z2 + 1)) (iv_w0 hka) (by omega)), (Fr.to (Fr.to (Fr.to hFL27 (by first | omega | (dsimp only; first | done | omega))) (by first | omega | (dsimp only; first | done | omega))) (by first | omega | (dsimp only; first | done | omega)))⟩ dX9_insertTone_90
            · refine lv_aload_n hx hb dX9_insertTone_32 rfl (lv_at hl 1 rfl) ?_
              refine f_9_4 F w (a := a) hka tb_7 dX9_insertTone_33 ?_
              refine lv_iload_n hx hb dX9_insertTone_36 rfl (lv_at hl 0 rfl) ?_
              refine lv_aload_n hx hb dX9_insertTone_37 rfl (lv_at hl 1 rfl) ?_
              refine f_9_4 F w (a := a) hka tb_7 dX9_insertTone_38 ?_
              refine lv_iload_n hx hb dX9_insertTone_41 rfl (lv_at hl 0 rfl) ?_
              refine lv_iconst (v := zI 1) hx hb dX9_insertTone_42 rfl ?_
              refine z_isub (z := (v3_27 - 1)) hx hb dX9_insertTone_43 (by omega) ?_
              refine g_iald F w (a := (a + 1)) (kd_w1 hka) (j := (Int.toNat (v3_27 - 1))) (ix_z (by omega) (by omega)) (by omega) dX9_insertTone_44 ?_
              obtain ⟨z6, bz6, ez6⟩ := Inv.ld (k := (Int.toNat (v3_27 - 1))) hIL27 (iv_wk hka _) (by have := lt_w hka; omega)
              refine r_val ez6 ?_
              refine g_iast F w (a := (a + 1)) (kd_w1 hka) (j := (Int.toNat v3_27)) (ix_z (by omega) (by omega)) (by omega) dX9_insertTone_45 (fun H locs w => ?_)
              refine lv_aload_n hx hb dX9_insertTone_46 rfl (lv_at hl 1 rfl) ?_
              refine f_9_5 F w (a := a) hka tb_6 dX9_insertTone_47 ?_
              refine lv_iload_n hx hb dX9_insertTone_50 rfl (lv_at hl 0 rfl) ?_
              refine lv_aload_n hx hb dX9_insertTone_51 rfl (lv_at hl 1 rfl) ?_
              refine f_9_5 F w (a := a) hka tb_6 dX9_insertTone_52 ?_
              refine lv_iload_n hx hb dX9_insertTone_55 rfl (lv_at hl 0 rfl) ?_
              refine lv_iconst (v := zI 1) hx hb dX9_insertTone_56 rfl ?_
              refine z_isub (z := (v3_27 - 1)) hx hb dX9_insertTone_57 (by omega) ?_
              refine g_iald F w (a := (a + 2)) (kd_w2 hka) (j := (Int.toNat (v3_27 - 1))) (ix_z (by omega) (by omega)) (by omega) dX9_insertTone_58 ?_
              obtain ⟨z7, bz7, ez7⟩ := Inv.ld (k := (Int.toNat (v3_27 - 1))) (Inv.to hIL27 (a := (a + 1)) (k := (Int.toNat v3_27)) (x := z6) (iv_wk hka _) (by omega)) (iv_wl hka _) (by have := lt_w hka; omega)
              refine r_val ez7 ?_
              refine g_iast F w (a := (a + 2)) (kd_w2 hka) (j := (Int.toNat v3_27)) (ix_z (by omega) (by omega)) (by omega) dX9_insertTone_59 (fun H locs w => ?_)
              refine z_iinc (v := (v3_27 - 1)) (lv' := [(3, .int (zI (v3_27 - 1))), (0, .ref (B + a)), (1, .int (zI t)), (2, .int (zI x))]) hx hb dX9_insertTone_60 hl (k := 0) rfl (by omega) (by decide) rfl (fun ls hl => ?_)
              refine lv_goto (tgt := 27) hx hb dX9_insertTone_63 (by decide) ?_
              exact ih27 (v3_27 - 1) (st (st NL27 (a + 1) (Int.toNat v3_27) (zI z6)) (a + 2) (Int.toNat v3_27) (zI z7)) (by omega)  ((st_ne (Or.inl (by omega))).trans ((st_ne (Or.inl (by omega))).trans ega_0_27))  (Inv.to (Inv.to hIL27 (a := (a + 1)) (k := (Int.toNat v3_27)) (x := z6) (iv_wk hka _) (by omega)) (a := (a + 2)) (k := (Int.toNat v3_27)) (x := z7) (iv_wl hka _) (by omega)) (Fr.to (Fr.to hFL27 (by first | omega | (dsimp only; first | done | omega))) (by first | omega | (dsimp only; first | done | omega))) (by omega) _ _ _ w (lv_sub hl [0, 1, 2, 3] rfl)
        exact lp27 _ z2 M (by omega) (ez2) hI hF (Nat.lt_succ_self _) _ _ _ w (lv_sub hl [0, 1, 2, 3] rfl)
      · rw [hQ]
        exact e_v F w hr hlocks ⟨hI, hF⟩ dX9_insertTone_21
theorem dX9_removeTone_8 : decode cX9_removeTone 8 = .ok (.return_, 1) := dq0 kk_177 (by decide +kernel)
set_option maxRecDepth 4000 in
theorem q_X9_removeTone {l : Launch} {D : va_G} {B : Nat} {cy : Nat → ClassId} {M : Mem} {a : Nat} (hka : kd a = (9, 0, 0)) {t : Int} (ht : (-2147483648) ≤ t ∧ t ≤ 2147483647) (hI : Inv M) : Cv l D B cy yX9_removeTone cX9_removeTone 3 1 21 [.ref (B + a), .int (zI t)] M (fun M1 => Inv M1 ∧ Fr (fun b9 k9 => b9 = (a + 1) ∨ b9 = (a + 2) ∨ b9 = a) M1 M) := by
  refine s_anyQ (by decide) (Nat.le_of_ble_eq_true rfl) ?_
  intro p e s m args below meth c ls Q F hr hlocks hQ w hl
  have F : CallFix p m c cX9_removeTone 3 s args TB RX9 := F
  have hx := F.1
  have hb := F.2.1
  have hl : lv_has ls 3 [(0, .ref (B + a)), (1, .int (zI t))] := hl
  have hF : Fr (fun b9 k9 => b9 = (a + 1) ∨ b9 = (a + 2) ∨ b9 = a) M M := Fr.rf
  refine lv_aload_n hx hb dX9_removeTone_0 rfl (lv_at hl 0 rfl) ?_
  refine lv_iload_n hx hb dX9_removeTone_1 rfl (lv_at hl 1 rfl) ?_
  obtain ⟨z1, bz1, ez1⟩ := Inv.ld (k := 0) hI (iv_w0 hka) (by have := lt_w hka; omega)
  refine k_Vi F w (As := [.int (zI t)]) (rest := []) (a := a) (kd_lt (a := a) hka (by decide)) (sh_9 hka _ _) rfl (q_X9_hasTone (a := a) hka (t := t) (by omega) (nn := z1) (ez1) (by omega)  hI) gv_X9_41 hv_X9_hasTone ⟨(Nat.le_of_ble_eq_true rfl), (Nat.le_of_ble_eq_true rfl)⟩ hl.1 rfl (Nat.le_of_ble_eq_true rfl) ⟨Nat.zero_le _, Nat.zero_le _⟩ dX9_removeTone_2 (fun r2 N3 H locs hp w => ?_)
  obtain ⟨z4, rfl, bz4, xz4, hMN3⟩ := hp
  rw [hMN3] at w
  refine z_if_ne (tgt := 9) hx hb (by omega) dX9_removeTone_5 (by decide) (fun c5 => ?_) (fun c5 => ?_)
  · refine lv_iload_n hx hb dX9_removeTone_9 rfl (lv_at hl 1 rfl) ?_
    refine lv_istore_n (lv' := [(2, .int (zI t)), (0, .ref (B + a)), (1, .int (zI t))]) hx hb dX9_removeTone_10 rfl hl (by decide) rfl (fun ls hl => ?_)
    have lp11 : ∀ (f : Nat) (v2_11 : Int)  (NL11 : Mem), (0 ≤ v2_11 ∧ v2_11 ≤ 11) → NL11.1 a 0 = zI z1 → Inv NL11 → Fr (fun b9 k9 => b9 = (a + 1) ∨ b9 = (a + 2) ∨ b9 = a) NL11 M → (Int.toNat (11 - v2_11) < f) → ∀ (H : Heap) (locs : List Loc) (ls : Array Slot), Wd D B cy s s.heap NL11 H locs → lv_has ls 3 [(2, .int (zI v2_11)), (0, .ref (B + a)), (1, .int (zI t))] → W p l e (rmm 1 21) s m args below meth c H locs 0 0 Q (F0 m 11 ls []) := by
      intro f
      induction f with
      | zero => intros; omega
      | succ f ih11 =>
        intro v2_11  NL11 iv2_11 ega_0_11 hIL11 hFL11 hf11 H locs ls w hl
        refine lv_iload_n hx hb dX9_removeTone_11 rfl (lv_at hl 0 rfl) ?_
        refine lv_aload_n hx hb dX9_removeTone_12 rfl (lv_at hl 1 rfl) ?_
        refine f_9_0 F w (a := a) hka tb_0 dX9_removeTone_13 ?_
        refine r_val (v := zI z1) (ega_0_11) ?_
        refine lv_iconst (v := zI 1) hx hb dX9_removeTone_16 rfl ?_
        refine z_isub (z := (z1 - 1)) hx hb dX9_removeTone_17 (by omega) ?_
        refine z_icmp_ge (tgt := 55) hx hb (by omega) (by omega) dX9_removeTone_18 (by decide) (fun c6 => ?_) (fun c6 => ?_)
        · refine lv_aload_n hx hb dX9_removeTone_55 rfl (lv_at hl 1 rfl) ?_
          refine lv_dup hx hb dX9_removeTone_56 rfl ?_
          refine f_9_0 F w (a := a) hka tb_0 dX9_removeTone_57 ?_
          refine r_val (v := zI z1) (ega_0_11) ?_
          refine lv_iconst (v := zI 1) hx hb dX9_removeTone_60 rfl ?_
          refine z_isub (z := (z1 - 1)) hx hb dX9_removeTone_61 (by omega) ?_
          refine u_9_0 F w (a := a) hka tb_0 dX9_removeTone_62 (fun H locs w => ?_)
          rw [hQ]
          exact e_v F w hr hlocks ⟨(Inv.to hIL11 (a := a) (k := 0) (x := (z1 - 1)) (iv_w0 hka) (by omega)), (Fr.to hFL11 (by first | omega | (dsimp only; first | done | omega)))⟩ dX9_removeTone_65
        · refine lv_aload_n hx hb dX9_removeTone_21 rfl (lv_at hl 1 rfl) ?_
          refine f_9_4 F w (a := a) hka tb_7 dX9_removeTone_22 ?_
          refine lv_iload_n hx hb dX9_removeTone_25 rfl (lv_at hl 0 rfl) ?_
          refine lv_aload_n hx hb dX9_removeTone_26 rfl (lv_at hl 1 rfl) ?_
          refine f_9_4 F w (a := a) hka tb_7 dX9_removeTone_27 ?_
          refine lv_iload_n hx hb dX9_removeTone_30 rfl (lv_at hl 0 rfl) ?_
          refine lv_iconst (v := zI 1) hx hb dX9_removeTone_31 rfl ?_
          refine z_iadd (z := (v2_11 + 1)) hx hb dX9_removeTone_32 (by omega) ?_
          refine g_iald F w (a := (a + 1)) (kd_w1 hka) (j := (Int.toNat (v2_11 + 1))) (ix_z (by omega) (by omega)) (by omega) dX9_removeTone_33 ?_
          obtain ⟨z7, bz7, ez7⟩ := Inv.ld (k := (Int.toNat (v2_11 + 1))) hIL11 (iv_wk hka _) (by have := lt_w hka; omega)
          refine r_val ez7 ?_
          refine g_iast F w (a := (a + 1)) (kd_w1 hka) (j := (Int.toNat v2_11)) (ix_z (by omega) (by omega)) (by omega) dX9_removeTone_34 (fun H locs w => ?_)
          refine lv_aload_n hx hb dX9_removeTone_35 rfl (lv_at hl 1 rfl) ?_
          refine f_9_5 F w (a := a) hka tb_6 dX9_removeTone_36 ?_
          refine lv_iload_n hx hb dX9_removeTone_39 rfl (lv_at hl 0 rfl) ?_
          refine lv_aload_n hx hb dX9_removeTone_40 rfl (lv_at hl 1 rfl) ?_
          refine f_9_5 F w (a := a) hka tb_6 dX9_removeTone_41 ?_
          refine lv_iload_n hx hb dX9_removeTone_44 rfl (lv_at hl 0 rfl) ?_
          refine lv_iconst (v := zI 1) hx hb dX9_removeTone_45 rfl ?_
          refine z_iadd (z := (v2_11 + 1)) hx hb dX9_removeTone_46 (by omega) ?_
          refine g_iald F w (a := (a + 2)) (kd_w2 hka) (j := (Int.toNat (v2_11 + 1))) (ix_z (by omega) (by omega)) (by omega) dX9_removeTone_47 ?_
          obtain ⟨z8, bz8, ez8⟩ := Inv.ld (k := (Int.toNat (v2_11 + 1))) (Inv.to hIL11 (a := (a + 1)) (k := (Int.toNat v2_11)) (x := z7) (iv_wk hka _) (by omega)) (iv_wl hka _) (by have := lt_w hka; omega)
          refine r_val ez8 ?_
          refine g_iast F w (a := (a + 2)) (kd_w2 hka) (j := (Int.toNat v2_11)) (ix_z (by omega) (by omega)) (by omega) dX9_removeTone_48 (fun H locs w => ?_)
          refine z_iinc (v := (v2_11 + 1)) (lv' := [(2, .int (zI (v2_11 + 1))), (0, .ref (B + a)), (1, .int (zI t))]) hx hb dX9_removeTone_49 hl (k := 0) rfl (by omega) (by decide) rfl (fun ls hl => ?_)
          refine lv_goto (tgt := 11) hx hb dX9_removeTone_52 (by decide) ?_
          exact ih11 (v2_11 + 1) (st (st NL11 (a + 1) (Int.toNat v2_11) (zI z7)) (a + 2) (Int.toNat v2_11) (zI z8)) (by omega)  ((st_ne (Or.inl (by omega))).trans ((st_ne (Or.inl (by omega))).trans ega_0_11))  (Inv.to (Inv.to hIL11 (a := (a + 1)) (k := (Int.toNat v2_11)) (x := z7) (iv_wk hka _) (by omega)) (a := (a + 2)) (k := (Int.toNat v2_11)) (x := z8) (iv_wl hka _) (by omega)) (Fr.to (Fr.to hFL11 (by first | omega | (dsimp only; first | done | omega))) (by first | omega | (dsimp only; first | done | omega))) (by omega) _ _ _ w (lv_sub hl [0, 1, 2] rfl)
    exact lp11 _ t M (by omega) (ez1) hI hF (Nat.lt_succ_self _) _ _ _ w (lv_sub hl [0, 1, 2] rfl)
  · rw [hQ]
    exact e_v F w hr hlocks ⟨hI, hF⟩ dX9_removeTone_8
set_option maxRecDepth 4000 in
theorem q_X9_setSyllable {l : Launch} {D : va_G} {B : Nat} {cy : Nat → ClassId} {M : Mem} {a : Nat} (hka : kd a = (9, 0, 0)) {y : Int} (hy : 0 ≤ y ∧ y ≤ 11) {x : Int} (hx : 0 ≤ x ∧ x ≤ 1) {x1 : Int} (hx1 : 0 ≤ x1 ∧ x1 ≤ 1) (hI : Inv M) : Cv l D B cy yX9_setSyllable cX9_setSyllable 5 0 0 [.ref (B + a), .int (zI y), .int (zI x), .int (zI x1)] M (fun M1 => Inv M1 ∧ Fr (fun b9 k9 => b9 = a) M1 M) := by
  refine s_anyQ (by decide) (Nat.le_of_ble_eq_true rfl) ?_
  intro p e s m args below meth c ls Q F hr hlocks hQ w hl
  have F : CallFix p m c cX9_setSyllable 5 s args TB RX9 := F
  have hx := F.1
  have hb := F.2.1
  have hl : lv_has ls 5 [(0, .ref (B + a)), (1, .int (zI y)), (2, .int (zI x)), (3, .int (zI x1))] := hl
  have hF : Fr (fun b9 k9 => b9 = a) M M := Fr.rf
  refine lv_iconst (v := zI 1) hx hb dX9_setSyllable_0 rfl ?_
  refine lv_iload_n hx hb dX9_setSyllable_1 rfl (lv_at hl 1 rfl) ?_
  obtain ⟨z1, bz1, x0z1, ez1⟩ := shl_ex 1 y
  refine lv_ishl hx hb dX9_setSyllable_2 ?_
  refine r_val ez1 ?_
  refine lv_istore (lv' := [(4, .int (zI z1)), (0, .ref (B + a)), (1, .int (zI y)), (2, .int (zI x)), (3, .int (zI x1))]) hx hb dX9_setSyllable_3 hl (by decide) rfl (fun ls hl => ?_)
  refine lv_aload_n hx hb dX9_setSyllable_5 rfl (lv_at hl 1 rfl) ?_
  refine lv_iload_n hx hb dX9_setSyllable_6 rfl (lv_at hl 3 rfl) ?_
  refine z_if_eq (tgt := 20) hx hb (by omega) dX9_setSyllable_7 (by decide) (fun c2 => ?_) (fun c2 => ?_)
  · refine lv_aload_n hx hb dX9_setSyllable_20 rfl (lv_at hl 1 rfl) ?_
    refine f_9_2 F w (a := a) hka tb_11 dX9_setSyllable_21 ?_
    obtain ⟨z3, bz3, ez3⟩ := Inv.ld (k := 2) hI (iv_w2 hka) (by have := lt_w hka; omega)
    refine r_val ez3 ?_
    refine lv_iload hx hb dX9_setSyllable_24 (lv_at hl 0 rfl) ?_
    refine lv_iconst (v := zI (-1)) hx hb dX9_setSyllable_26 rfl ?_
    refine lv_ixor hx hb dX9_setSyllable_27 ?_
    refine r_val (not_ex z1) ?_
    obtain ⟨z4, bz4, x0z4, x1z4, ez4⟩ := and_ex z3 (-z1 - 1) (by omega) (by omega)
    refine lv_iand hx hb dX9_setSyllable_28 ?_
    refine r_val ez4 ?_
    refine u_9_2 F w (a := a) hka tb_11 dX9_setSyllable_29 (fun H locs w => ?_)
    refine lv_aload_n hx hb dX9_setSyllable_32 rfl (lv_at hl 1 rfl) ?_
    refine lv_iload_n hx hb dX9_setSyllable_33 rfl (lv_at hl 4 rfl) ?_
    refine z_if_eq (tgt := 47) hx hb (by omega) dX9_setSyllable_34 (by decide) (fun c5 => ?_) (fun c5 => ?_)
    · refine lv_aload_n hx hb dX9_setSyllable_47 rfl (lv_at hl 1 rfl) ?_
      refine f_9_3 F w (a := a) hka tb_12 dX9_setSyllable_48 ?_
      obtain ⟨z6, bz6, ez6⟩ := Inv.ld (k := 3) (Inv.to hI (a := a) (k := 2) (x := z4) (iv_w2 hka) (by omega)) (iv_w3 hka) (by have := lt_w hka; omega)
      refine r_val ez6 ?_
      refine lv_iload hx hb dX9_setSyllable_51 (lv_at hl 0 rfl) ?_
      refine lv_iconst (v := zI (-1)) hx hb dX9_setSyllable_53 rfl ?_
      refine lv_ixor hx hb dX9_setSyllable_54 ?_
      refine r_val (not_ex z1) ?_
      obtain ⟨z7, bz7, x0z7, x1z7, ez7⟩ := and_ex z6 (-z1 - 1) (by omega) (by omega)
      refine lv_iand hx hb dX9_setSyllable_55 ?_
      refine r_val ez7 ?_
      refine u_9_3 F w (a := a) hka tb_12 dX9_setSyllable_56 (fun H locs w => ?_)
      rw [hQ]
      exact e_v F w hr hlocks ⟨(Inv.to (Inv.to hI (a := a) (k := 2) (x := z4) (iv_w2 hka) (by omega)) (a := a) (k := 3) (x := z7) (iv_w3 hka) (by omega)), (Fr.to (Fr.to hF (by first | omega | (dsimp only; first | done | omega))) (by first | omega | (dsimp only; first | done | omega)))⟩ dX9_setSyllable_59
    · refine lv_aload_n hx hb dX9_setSyllable_37 rfl (lv_at hl 1 rfl) ?_
      refine f_9_3 F w (a := a) hka tb_12 dX9_setSyllable_38 ?_
      obtain ⟨z8, bz8, ez8⟩ := Inv.ld (k := 3) (Inv.to hI (a := a) (k := 2) (x := z4) (iv_w2 hka) (by omega)) (iv_w3 hka) (by have := lt_w hka; omega)
      refine r_val ez8 ?_
      refine lv_iload hx hb dX9_setSyllable_41 (lv_at hl 0 rfl) ?_
      obtain ⟨z9, bz9, x0z9, ez9⟩ := or_ex z8 z1
      refine lv_ior hx hb dX9_setSyllable_43 ?_
      refine r_val ez9 ?_
      refine lv_goto (tgt := 56) hx hb dX9_setSyllable_44 (by decide) ?_
      refine u_9_3 F w (a := a) hka tb_12 dX9_setSyllable_56 (fun H locs w => ?_)
      rw [hQ]
      exact e_v F w hr hlocks ⟨(Inv.to (Inv.to hI (a := a) (k := 2) (x := z4) (iv_w2 hka) (by omega)) (a := a) (k := 3) (x := z9) (iv_w3 hka) (by omega)), (Fr.to (Fr.to hF (by first | omega | (dsimp only; first | done | omega))) (by first | omega | (dsimp only; first | done | omega)))⟩ dX9_setSyllable_59
  · refine lv_aload_n hx hb dX9_setSyllable_10 rfl (lv_at hl 1 rfl) ?_
    refine f_9_2 F w (a := a) hka tb_11 dX9_setSyllable_11 ?_
    obtain ⟨z10, bz10, ez10⟩ := Inv.ld (k := 2) hI (iv_w2 hka) (by have := lt_w hka; omega)
    refine r_val ez10 ?_
    refine lv_iload hx hb dX9_setSyllable_14 (lv_at hl 0 rfl) ?_
    obtain ⟨z11, bz11, x0z11, ez11⟩ := or_ex z10 z1
    refine lv_ior hx hb dX9_setSyllable_16 ?_
    refine r_val ez11 ?_
    refine lv_goto (tgt := 29) hx hb dX9_setSyllable_17 (by decide) ?_
    refine u_9_2 F w (a := a) hka tb_11 dX9_setSyllable_29 (fun H locs w => ?_)
    refine lv_aload_n hx hb dX9_setSyllable_32 rfl (lv_at hl 1 rfl) ?_
    refine lv_iload_n hx hb dX9_setSyllable_33 rfl (lv_at hl 4 rfl) ?_
    refine z_if_eq (tgt := 47) hx hb (by omega) dX9_setSyllable_34 (by decide) (fun c12 => ?_) (fun c12 => ?_)
    · refine lv_aload_n hx hb dX9_setSyllable_47 rfl (lv_at hl 1 rfl) ?_
      refine f_9_3 F w (a := a) hka tb_12 dX9_setSyllable_48 ?_
      obtain ⟨z13, bz13, ez13⟩ := Inv.ld (k := 3) (Inv.to hI (a := a) (k := 2) (x := z11) (iv_w2 hka) (by omega)) (iv_w3 hka) (by have := lt_w hka; omega)
      refine r_val ez13 ?_
      refine lv_iload hx hb dX9_setSyllable_51 (lv_at hl 0 rfl) ?_
      refine lv_iconst (v := zI (-1)) hx hb dX9_setSyllable_53 rfl ?_
      refine lv_ixor hx hb dX9_setSyllable_54 ?_
      refine r_val (not_ex z1) ?_
      obtain ⟨z14, bz14, x0z14, x1z14, ez14⟩ := and_ex z13 (-z1 - 1) (by omega) (by omega)
      refine lv_iand hx hb dX9_setSyllable_55 ?_
      refine r_val ez14 ?_
      refine u_9_3 F w (a := a) hka tb_12 dX9_setSyllable_56 (fun H locs w => ?_)
      rw [hQ]
      exact e_v F w hr hlocks ⟨(Inv.to (Inv.to hI (a := a) (k := 2) (x := z11) (iv_w2 hka) (by omega)) (a := a) (k := 3) (x := z14) (iv_w3 hka) (by omega)), (Fr.to (Fr.to hF (by first | omega | (dsimp only; first | done | omega))) (by first | omega | (dsimp only; first | done | omega)))⟩ dX9_setSyllable_59
    · refine lv_aload_n hx hb dX9_setSyllable_37 rfl (lv_at hl 1 rfl) ?_
      refine f_9_3 F w (a := a) hka tb_12 dX9_setSyllable_38 ?_
      obtain ⟨z15, bz15, ez15⟩ := Inv.ld (k := 3) (Inv.to hI (a := a) (k := 2) (x := z11) (iv_w2 hka) (by omega)) (iv_w3 hka) (by have := lt_w hka; omega)
      refine r_val ez15 ?_
      refine lv_iload hx hb dX9_setSyllable_41 (lv_at hl 0 rfl) ?_
      obtain ⟨z16, bz16, x0z16, ez16⟩ := or_ex z15 z1
      refine lv_ior hx hb dX9_setSyllable_43 ?_
      refine r_val ez16 ?_
      refine lv_goto (tgt := 56) hx hb dX9_setSyllable_44 (by decide) ?_
      refine u_9_3 F w (a := a) hka tb_12 dX9_setSyllable_56 (fun H locs w => ?_)
      rw [hQ]
      exact e_v F w hr hlocks ⟨(Inv.to (Inv.to hI (a := a) (k := 2) (x := z11) (iv_w2 hka) (by omega)) (a := a) (k := 3) (x := z16) (iv_w3 hka) (by omega)), (Fr.to (Fr.to hF (by first | omega | (dsimp only; first | done | omega))) (by first | omega | (dsimp only; first | done | omega)))⟩ dX9_setSyllable_59
set_option maxRecDepth 4000 in
theorem q_X9_addSyllable {l : Launch} {D : va_G} {B : Nat} {cy : Nat → ClassId} {M : Mem} {a : Nat} (hka : kd a = (9, 0, 0)) {x : Int} (hx : 0 ≤ x ∧ x ≤ 1) {x1 : Int} (hx1 : 0 ≤ x1 ∧ x1 ≤ 1) (hI : Inv M) : Cv l D B cy yX9_addSyllable cX9_addSyllable 3 1 24 [.ref (B + a), .int (zI x), .int (zI x1)] M (fun M1 => Inv M1 ∧ Fr (fun b9 k9 => b9 = a) M1 M) := by
  refine s_anyQ (by decide) (Nat.le_of_ble_eq_true rfl) ?_
  intro p e s m args below meth c ls Q F hr hlocks hQ w hl
  have F : CallFix p m c cX9_addSyllable 3 s args TB RX9 := F
  have hx := F.1
  have hb := F.2.1
  have hl : lv_has ls 3 [(0, .ref (B + a)), (1, .int (zI x)), (2, .int (zI x1))] := hl
  have hF : Fr (fun b9 k9 => b9 = a) M M := Fr.rf
  refine lv_aload_n hx hb dX9_addSyllable_0 rfl (lv_at hl 0 rfl) ?_
  refine f_9_1 F w (a := a) hka tb_1 dX9_addSyllable_1 ?_
  obtain ⟨z1, bz1, ez1⟩ := Inv.ld (k := 1) hI (iv_w1 hka) (by have := lt_w hka; omega)
  refine r_val ez1 ?_
  refine lv_bipush (v := zI 12) hx hb dX9_addSyllable_4 (by decide) ?_
  refine z_icmp_ge (tgt := 31) hx hb (by omega) (by omega) dX9_addSyllable_6 (by decide) (fun c2 => ?_) (fun c2 => ?_)
  · rw [hQ]
    exact e_v F w hr hlocks ⟨hI, hF⟩ dX9_addSyllable_31
  · refine lv_aload_n hx hb dX9_addSyllable_9 rfl (lv_at hl 0 rfl) ?_
    refine lv_dup hx hb dX9_addSyllable_10 rfl ?_
    refine f_9_1 F w (a := a) hka tb_1 dX9_addSyllable_11 ?_
    refine r_val (v := zI z1) (ez1) ?_
    refine lv_iconst (v := zI 1) hx hb dX9_addSyllable_14 rfl ?_
    refine z_iadd (z := (z1 + 1)) hx hb dX9_addSyllable_15 (by omega) ?_
    refine u_9_1 F w (a := a) hka tb_1 dX9_addSyllable_16 (fun H locs w => ?_)
    refine lv_aload_n hx hb dX9_addSyllable_19 rfl (lv_at hl 0 rfl) ?_
    refine lv_aload_n hx hb dX9_addSyllable_20 rfl (lv_at hl 0 rfl) ?_
    refine f_9_1 F w (a := a) hka tb_1 dX9_addSyllable_21 ?_
    refine r_val (v := zI (z1 + 1)) (st_at) ?_
    refine lv_iconst (v := zI 1) hx hb dX9_addSyllable_24 rfl ?_
    refine z_isub (z := z1) hx hb dX9_addSyllable_25 (by omega) ?_
    refine lv_iload_n hx hb dX9_addSyllable_26 rfl (lv_at hl 1 rfl) ?_
    refine lv_iload_n hx hb dX9_addSyllable_27 rfl (lv_at hl 2 rfl) ?_
    refine k_Vv F w (As := [.int (zI z1), .int (zI x), .int (zI x1)]) (rest := []) (a := a) (kd_lt (a := a) hka (by decide)) (sh_9 hka _ _) rfl (q_X9_setSyllable (a := a) hka (y := z1) (by omega) (x := x) (by omega) (x1 := x1) (by omega)  (Inv.to hI (a := a) (k := 1) (x := (z1 + 1)) (iv_w1 hka) (by omega))) gv_X9_56 hv_X9_setSyllable ⟨(Nat.le_of_ble_eq_true rfl), (Nat.le_of_ble_eq_true rfl)⟩ hl.1 rfl (Nat.le_of_ble_eq_true rfl) ⟨Nat.zero_le _, Nat.zero_le _⟩ dX9_addSyllable_28 (fun N4 H locs hp w => ?_)
    obtain ⟨hIN4, hFN4⟩ := hp
    have hGN4 := Fr.tr (Fr.to hF (by first | omega | (dsimp only; first | done | omega))) hFN4 (S := (fun b9 k9 => b9 = a)) (fun b k h => by (try dsimp only at h ⊢); (repeat' (refine Or.elim h ?_ ?_ <;> clear h <;> intro h)); all_goals first | (obtain ⟨rfl, rfl⟩ := h; decide) | (subst h; decide) | omega)
    rw [hQ]
    exact e_v F w hr hlocks ⟨hIN4, hGN4⟩ dX9_addSyllable_31
theorem dX9_removeSyllable_0 : decode cX9_removeSyllable 0 = .ok (.aload_n 0, 1) := wdX9_removeSyllable_0
theorem dX9_removeSyllable_1 : decode cX9_removeSyllable 1 = .ok (.getfield 15, 3) := wdX9_removeSyllable_1
theorem dX9_removeSyllable_4 : decode cX9_removeSyllable 4 = .ok (.ifCond .le 46, 3) := wdX9_removeSyllable_4
theorem dX9_removeSyllable_50 : decode cX9_removeSyllable 50 = .ok (.return_, 1) := wdX9_removeSyllable_50
theorem dX9_removeSyllable_7 : decode cX9_removeSyllable 7 = .ok (.aload_n 0, 1) := wdX9_removeSyllable_7
theorem dX9_removeSyllable_8 : decode cX9_removeSyllable 8 = .ok (.dup, 1) := wdX9_removeSyllable_8
theorem dX9_removeSyllable_9 : decode cX9_removeSyllable 9 = .ok (.getfield 15, 3) := wdX9_removeSyllable_9
theorem dX9_removeSyllable_12 : decode cX9_removeSyllable 12 = .ok (.iconst 1, 1) := wdX9_removeSyllable_12
theorem dX9_removeSyllable_13 : decode cX9_removeSyllable 13 = .ok (.isub, 1) := wdX9_removeSyllable_13
theorem dX9_removeSyllable_14 : decode cX9_removeSyllable 14 = .ok (.putfield 15, 3) := wdX9_removeSyllable_14
theorem dX9_removeSyllable_17 : decode cX9_removeSyllable 17 = .ok (.iconst 0, 1) := wdX9_removeSyllable_17
theorem dX9_removeSyllable_18 : decode cX9_removeSyllable 18 = .ok (.istore_n 1, 1) := wdX9_removeSyllable_18
theorem dX9_removeSyllable_19 : decode cX9_removeSyllable 19 = .ok (.iload_n 1, 1) := wdX9_removeSyllable_19
theorem dX9_removeSyllable_20 : decode cX9_removeSyllable 20 = .ok (.aload_n 0, 1) := wdX9_removeSyllable_20
theorem dX9_removeSyllable_21 : decode cX9_removeSyllable 21 = .ok (.getfield 9, 3) := wdX9_removeSyllable_21
theorem dX9_removeSyllable_24 : decode cX9_removeSyllable 24 = .ok (.if_icmp .ge 26, 3) := wdX9_removeSyllable_24
theorem dX9_removeSyllable_27 : decode cX9_removeSyllable 27 = .ok (.aload_n 0, 1) := wdX9_removeSyllable_27
theorem dX9_removeSyllable_28 : decode cX9_removeSyllable 28 = .ok (.getfield 28, 3) := wdX9_removeSyllable_28
theorem dX9_removeSyllable_31 : decode cX9_removeSyllable 31 = .ok (.iload_n 1, 1) := wdX9_removeSyllable_31
theorem dX9_removeSyllable_32 : decode cX9_removeSyllable 32 = .ok (.dup2, 1) := wdX9_removeSyllable_32
theorem dX9_removeSyllable_33 : decode cX9_removeSyllable 33 = .ok (.iaload, 1) := wdX9_removeSyllable_33
theorem dX9_removeSyllable_34 : decode cX9_removeSyllable 34 = .ok (.iconst 1, 1) := wdX9_removeSyllable_34
theorem dX9_removeSyllable_35 : decode cX9_removeSyllable 35 = .ok (.aload_n 0, 1) := wdX9_removeSyllable_35
theorem dX9_removeSyllable_36 : decode cX9_removeSyllable 36 = .ok (.getfield 15, 3) := wdX9_removeSyllable_36
theorem dX9_removeSyllable_39 : decode cX9_removeSyllable 39 = .ok (.ishl, 1) := wdX9_removeSyllable_39
theorem dX9_removeSyllable_40 : decode cX9_removeSyllable 40 = .ok (.iconst (-1), 1) := wdX9_removeSyllable_40
theorem dX9_removeSyllable_41 : decode cX9_removeSyllable 41 = .ok (.ixor, 1) := wdX9_removeSyllable_41
theorem dX9_removeSyllable_42 : decode cX9_removeSyllable 42 = .ok (.iand, 1) := wdX9_removeSyllable_42
theorem dX9_removeSyllable_43 : decode cX9_removeSyllable 43 = .ok (.iastore, 1) := wdX9_removeSyllable_43
theorem dX9_removeSyllable_44 : decode cX9_removeSyllable 44 = .ok (.iinc 1 1, 3) := wdX9_removeSyllable_44
theorem dX9_removeSyllable_47 : decode cX9_removeSyllable 47 = .ok (.goto (-28), 3) := wdX9_removeSyllable_47
set_option maxRecDepth 4000 in
theorem q_X9_removeSyllable {l : Launch} {D : va_G} {B : Nat} {cy : Nat → ClassId} {M : Mem} {a : Nat} (hka : kd a = (9, 0, 0)) (hI : Inv M) : Cv l D B cy yX9_removeSyllable cX9_removeSyllable 2 0 0 [.ref (B + a)] M (fun M1 => Inv M1 ∧ Fr (fun b9 k9 => b9 = (a + 2) ∨ b9 = a) M1 M) := by
  refine s_anyQ (by decide) (Nat.le_of_ble_eq_true rfl) ?_
  intro p e s m args below meth c ls Q F hr hlocks hQ w hl
  have F : CallFix p m c cX9_removeSyllable 2 s args TB RX9 := F
  have hx := F.1
  have hb := F.2.1
  have hl : lv_has ls 2 [(0, .ref (B + a))] := hl
  have hF : Fr (fun b9 k9 => b9 = (a + 2) ∨ b9 = a) M M := Fr.rf
  refine lv_aload_n hx hb dX9_removeSyllable_0 rfl (lv_at hl 0 rfl) ?_
  refine f_9_1 F w (a := a) hka tb_1 dX9_removeSyllable_1 ?_
  obtain ⟨z1, bz1, ez1⟩ := Inv.ld (k := 1) hI (iv_w1 hka) (by have := lt_w hka; omega)
  refine r_val ez1 ?_
  refine z_if_le (tgt := 50) hx hb (by omega) dX9_removeSyllable_4 (by decide) (fun c2 => ?_) (fun c2 => ?_)
  · rw [hQ]
    exact e_v F w hr hlocks ⟨hI, hF⟩ dX9_removeSyllable_50
  · refine lv_aload_n hx hb dX9_removeSyllable_7 rfl (lv_at hl 0 rfl) ?_
    refine lv_dup hx hb dX9_removeSyllable_8 rfl ?_
    refine f_9_1 F w (a := a) hka tb_1 dX9_removeSyllable_9 ?_
    refine r_val (v := zI z1) (ez1) ?_
    refine lv_iconst (v := zI 1) hx hb dX9_removeSyllable_12 rfl ?_
    refine z_isub (z := (z1 - 1)) hx hb dX9_removeSyllable_13 (by omega) ?_
    refine u_9_1 F w (a := a) hka tb_1 dX9_removeSyllable_14 (fun H locs w => ?_)
    refine lv_iconst (v := zI 0) hx hb dX9_removeSyllable_17 rfl ?_
    refine lv_istore_n (lv' := [(1, .int (zI 0)), (0, .ref (B + a))]) hx hb dX9_removeSyllable_18 rfl hl (by decide) rfl (fun ls hl => ?_)
    have lp19 : ∀ (f : Nat) (v1_19 : Int)  (NL19 : Mem), (0 ≤ v1_19 ∧ v1_19 ≤ 12) → NL19.1 a 1 = zI (z1 - 1) → Inv NL19 → Fr (fun b9 k9 => b9 = (a + 2) ∨ b9 = a) NL19 M → (Int.toNat (12 - v1_19) < f) → ∀ (H : Heap) (locs : List Loc) (ls : Array Slot), Wd D B cy s s.heap NL19 H locs → lv_has ls 2 [(1, .int (zI v1_19)), (0, .ref (B + a))] → W p l e (rmm 0 0) s m args below meth c H locs 0 0 Q (F0 m 19 ls []) := by
      intro f
      induction f with
      | zero => intros; omega
      | succ f ih19 =>
        intro v1_19  NL19 iv1_19 ega_1_19 hIL19 hFL19 hf19 H locs ls w hl
        refine lv_iload_n hx hb dX9_removeSyllable_19 rfl (lv_at hl 0 rfl) ?_
        refine lv_aload_n hx hb dX9_removeSyllable_20 rfl (lv_at hl 1 rfl) ?_
        refine f_9_0 F w (a := a) hka tb_0 dX9_removeSyllable_21 ?_
        obtain ⟨z3, bz3, ez3⟩ := Inv.ld (k := 0) hIL19 (iv_w0 hka) (by have := lt_w hka; omega)
        refine r_val ez3 ?_
        refine z_icmp_ge (tgt := 50) hx hb (by omega) (by omega) dX9_removeSyllable_24 (by decide) (fun c4 => ?_) (fun c4 => ?_)
        · rw [hQ]
          exact e_v F w hr hlocks ⟨hIL19, hFL19⟩ dX9_removeSyllable_50
        · refine lv_aload_n hx hb dX9_removeSyllable_27 rfl (lv_at hl 1 rfl) ?_
          refine f_9_5 F w (a := a) hka tb_6 dX9_removeSyllable_28 ?_
          refine lv_iload_n hx hb dX9_removeSyllable_31 rfl (lv_at hl 0 rfl) ?_
          refine lv_dup2_11 hx hb dX9_removeSyllable_32 rfl rfl ?_
          refine g_iald F w (a := (a + 2)) (kd_w2 hka) (j := (Int.toNat v1_19)) (ix_z (by omega) (by omega)) (by omega) dX9_removeSyllable_33 ?_
          obtain ⟨z5, bz5, ez5⟩ := Inv.ld (k := (Int.toNat v1_19)) hIL19 (iv_wl hka _) (by have := lt_w hka; omega)
          refine r_val ez5 ?_
          refine lv_iconst (v := zI 1) hx hb dX9_removeSyllable_34 rfl ?_
          refine lv_aload_n hx hb dX9_removeSyllable_35 rfl (lv_at hl 1 rfl) ?_
          refine f_9_1 F w (a := a) hka tb_1 dX9_removeSyllable_36 ?_
          refine r_val (v := zI (z1 - 1)) (ega_1_19) ?_
          obtain ⟨z6, bz6, x0z6, ez6⟩ := shl_ex 1 (z1 - 1)
          refine lv_ishl hx hb dX9_removeSyllable_39 ?_
          refine r_val ez6 ?_
          refine lv_iconst (v := zI (-1)) hx hb dX9_removeSyllable_40 rfl ?_
          refine lv_ixor hx hb dX9_removeSyllable_41 ?_
          refine r_val (not_ex z6) ?_
          obtain ⟨z7, bz7, x0z7, x1z7, ez7⟩ := and_ex z5 (-z6 - 1) (by omega) (by omega)
          refine lv_iand hx hb dX9_removeSyllable_42 ?_
          refine r_val ez7 ?_
          refine g_iast F w (a := (a + 2)) (kd_w2 hka) (j := (Int.toNat v1_19)) (ix_z (by omega) (by omega)) (by omega) dX9_removeSyllable_43 (fun H locs w => ?_)
          refine z_iinc (v := (v1_19 + 1)) (lv' := [(1, .int (zI (v1_19 + 1))), (0, .ref (B + a))]) hx hb dX9_removeSyllable_44 hl (k := 0) rfl (by omega) (by decide) rfl (fun ls hl => ?_)
          refine lv_goto (tgt := 19) hx hb dX9_removeSyllable_47 (by decide) ?_
          exact ih19 (v1_19 + 1) (st NL19 (a + 2) (Int.toNat v1_19) (zI z7)) (by omega)  ((st_ne (Or.inl (by omega))).trans ega_1_19)  (Inv.to hIL19 (a := (a + 2)) (k := (Int.toNat v1_19)) (x := z7) (iv_wl hka _) (by omega)) (Fr.to hFL19 (by first | omega | (dsimp only; first | done | omega))) (by omega) _ _ _ w (lv_sub hl [0, 1] rfl)
    exact lp19 _ 0 (st M a 1 (zI (z1 - 1))) (by omega) (st_at) (Inv.to hI (a := a) (k := 1) (x := (z1 - 1)) (iv_w1 hka) (by omega)) (Fr.to hF (by first | omega | (dsimp only; first | done | omega))) (Nat.lt_succ_self _) _ _ _ w (lv_sub hl [0, 1] rfl)
set_option maxRecDepth 4000 in
theorem q_X9_floating {l : Launch} {D : va_G} {B : Nat} {cy : Nat → ClassId} {M : Mem} {a : Nat} (hka : kd a = (9, 0, 0)) (hI : Inv M) : Ci l D B cy yX9_floating cX9_floating 3 (some .int) 0 0 [.ref (B + a)] M (fun r M1 => ∃ z : Int, r = zI z ∧ (0 ≤ z ∧ z ≤ 4095) ∧ M1 = M) := by
  refine s_anyQ (by decide) (Nat.le_of_ble_eq_true rfl) ?_
  intro p e s m args below meth c ls Q F hr hlocks hQ w hl
  have F : CallFix p m c cX9_floating 3 s args TB RX9 := F
  have hx := F.1
  have hb := F.2.1
  have hl : lv_has ls 3 [(0, .ref (B + a))] := hl
  refine lv_iconst (v := zI 0) hx hb dX9_floating_0 rfl ?_
  refine lv_istore_n (lv' := [(1, .int (zI 0)), (0, .ref (B + a))]) hx hb dX9_floating_1 rfl hl (by decide) rfl (fun ls hl => ?_)
  refine lv_iconst (v := zI 0) hx hb dX9_floating_2 rfl ?_
  refine lv_istore_n (lv' := [(2, .int (zI 0)), (1, .int (zI 0)), (0, .ref (B + a))]) hx hb dX9_floating_3 rfl hl (by decide) rfl (fun ls hl => ?_)
  have lp4 : ∀ (f : Nat) (v2_4 : Int) (v1_4 : Int), (0 ≤ v2_4 ∧ v2_4 ≤ 12) → (0 ≤ v1_4 ∧ v1_4 ≤ 4095) → (Int.toNat (12 - v2_4) < f) → ∀ (H : Heap) (locs : List Loc) (ls : Array Slot), Wd D B cy s s.heap M H locs → lv_has ls 3 [(2, .int (zI v2_4)), (1, .int (zI v1_4)), (0, .ref (B + a))] → W p l e (rmm 0 0) s m args below meth c H locs 0 0 Q (F0 m 4 ls []) := by
    intro f
    induction f with
    | zero => intros; omega
    | succ f ih4 =>
      intro v2_4 v1_4  iv2_4 iv1_4 hf4 H locs ls w hl
      refine lv_iload_n hx hb dX9_floating_4 rfl (lv_at hl 0 rfl) ?_
      refine lv_aload_n hx hb dX9_floating_5 rfl (lv_at hl 2 rfl) ?_
      refine f_9_0 F w (a := a) hka tb_0 dX9_floating_6 ?_
      obtain ⟨z1, bz1, ez1⟩ := Inv.ld (k := 0) hI (iv_w0 hka) (by have := lt_w hka; omega)
      refine r_val ez1 ?_
      refine z_icmp_ge (tgt := 33) hx hb (by omega) (by omega) dX9_floating_9 (by decide) (fun c2 => ?_) (fun c2 => ?_)
      · refine lv_iload_n hx hb dX9_floating_33 rfl (lv_at hl 1 rfl) ?_
        rw [hQ]
        exact e_i F w hr hlocks ⟨_, rfl, (by omega), rfl⟩ dX9_floating_34
      · refine lv_aload_n hx hb dX9_floating_12 rfl (lv_at hl 2 rfl) ?_
        refine f_9_5 F w (a := a) hka tb_6 dX9_floating_13 ?_
        refine lv_iload_n hx hb dX9_floating_16 rfl (lv_at hl 0 rfl) ?_
        refine g_iald F w (a := (a + 2)) (kd_w2 hka) (j := (Int.toNat v2_4)) (ix_z (by omega) (by omega)) (by omega) dX9_floating_17 ?_
        obtain ⟨z3, bz3, ez3⟩ := Inv.ld (k := (Int.toNat v2_4)) hI (iv_wl hka _) (by have := lt_w hka; omega)
        refine r_val ez3 ?_
        refine z_if_ne (tgt := 27) hx hb (by omega) dX9_floating_18 (by decide) (fun c4 => ?_) (fun c4 => ?_)
        · refine z_iinc (v := (v2_4 + 1)) (lv' := [(2, .int (zI (v2_4 + 1))), (1, .int (zI v1_4)), (0, .ref (B + a))]) hx hb dX9_floating_27 hl (k := 0) rfl (by omega) (by decide) rfl (fun ls hl => ?_)
          refine lv_goto (tgt := 4) hx hb dX9_floating_30 (by decide) ?_
          exact ih4 (v2_4 + 1) v1_4 (by omega) (by omega)     (by omega) _ _ _ w (lv_sub hl [0, 1, 2] rfl)
        · refine lv_iload_n hx hb dX9_floating_21 rfl (lv_at hl 1 rfl) ?_
          refine lv_iconst (v := zI 1) hx hb dX9_floating_22 rfl ?_
          refine lv_iload_n hx hb dX9_floating_23 rfl (lv_at hl 0 rfl) ?_
          obtain ⟨z5, bz5, x0z5, ez5⟩ := shl_ex 1 v2_4
          refine lv_ishl hx hb dX9_floating_24 ?_
          refine r_val ez5 ?_
          obtain ⟨z6, bz6, x0z6, ez6⟩ := or_ex v1_4 z5
          refine lv_ior hx hb dX9_floating_25 ?_
          refine r_val ez6 ?_
          refine lv_istore_n (lv' := [(1, .int (zI z6)), (2, .int (zI v2_4)), (0, .ref (B + a))]) hx hb dX9_floating_26 rfl hl (by decide) rfl (fun ls hl => ?_)
          refine z_iinc (v := (v2_4 + 1)) (lv' := [(2, .int (zI (v2_4 + 1))), (1, .int (zI z6)), (0, .ref (B + a))]) hx hb dX9_floating_27 hl (k := 1) rfl (by omega) (by decide) rfl (fun ls hl => ?_)
          refine lv_goto (tgt := 4) hx hb dX9_floating_30 (by decide) ?_
          exact ih4 (v2_4 + 1) z6 (by omega) (by omega)     (by omega) _ _ _ w (lv_sub hl [0, 1, 2] rfl)
  exact lp4 _ 0 0 (by omega) (by omega) (Nat.lt_succ_self _) _ _ _ w (lv_sub hl [0, 1, 2] rfl)
set_option maxRecDepth 4000 in
theorem q_X9_tonesOf {l : Launch} {D : va_G} {B : Nat} {cy : Nat → ClassId} {M : Mem} {a : Nat} (hka : kd a = (9, 0, 0)) {y : Int} (hy : 0 ≤ y ∧ y ≤ 11) (hI : Inv M) : Ci l D B cy yX9_tonesOf cX9_tonesOf 4 (some .int) 0 0 [.ref (B + a), .int (zI y)] M (fun r M1 => ∃ z : Int, r = zI z ∧ (0 ≤ z ∧ z ≤ 4095) ∧ M1 = M) := by
  refine s_anyQ (by decide) (Nat.le_of_ble_eq_true rfl) ?_
  intro p e s m args below meth c ls Q F hr hlocks hQ w hl
  have F : CallFix p m c cX9_tonesOf 4 s args TB RX9 := F
  have hx := F.1
  have hb := F.2.1
  have hl : lv_has ls 4 [(0, .ref (B + a)), (1, .int (zI y))] := hl
  refine lv_iconst (v := zI 0) hx hb dX9_tonesOf_0 rfl ?_
  refine lv_istore_n (lv' := [(2, .int (zI 0)), (0, .ref (B + a)), (1, .int (zI y))]) hx hb dX9_tonesOf_1 rfl hl (by decide) rfl (fun ls hl => ?_)
  refine lv_iconst (v := zI 0) hx hb dX9_tonesOf_2 rfl ?_
  refine lv_istore_n (lv' := [(3, .int (zI 0)), (2, .int (zI 0)), (0, .ref (B + a)), (1, .int (zI y))]) hx hb dX9_tonesOf_3 rfl hl (by decide) rfl (fun ls hl => ?_)
  have lp4 : ∀ (f : Nat) (v3_4 : Int) (v2_4 : Int), (0 ≤ v3_4 ∧ v3_4 ≤ 12) → (0 ≤ v2_4 ∧ v2_4 ≤ 4095) → (Int.toNat (12 - v3_4) < f) → ∀ (H : Heap) (locs : List Loc) (ls : Array Slot), Wd D B cy s s.heap M H locs → lv_has ls 4 [(3, .int (zI v3_4)), (2, .int (zI v2_4)), (0, .ref (B + a)), (1, .int (zI y))] → W p l e (rmm 0 0) s m args below meth c H locs 0 0 Q (F0 m 4 ls []) := by
    intro f
    induction f with
    | zero => intros; omega
    | succ f ih4 =>
      intro v3_4 v2_4  iv3_4 iv2_4 hf4 H locs ls w hl
      refine lv_iload_n hx hb dX9_tonesOf_4 rfl (lv_at hl 0 rfl) ?_
      refine lv_aload_n hx hb dX9_tonesOf_5 rfl (lv_at hl 2 rfl) ?_
      refine f_9_0 F w (a := a) hka tb_0 dX9_tonesOf_6 ?_
      obtain ⟨z1, bz1, ez1⟩ := Inv.ld (k := 0) hI (iv_w0 hka) (by have := lt_w hka; omega)
      refine r_val ez1 ?_
      refine z_icmp_ge (tgt := 33) hx hb (by omega) (by omega) dX9_tonesOf_9 (by decide) (fun c2 => ?_) (fun c2 => ?_)
      · refine lv_iload_n hx hb dX9_tonesOf_33 rfl (lv_at hl 1 rfl) ?_
        rw [hQ]
        exact e_i F w hr hlocks ⟨_, rfl, (by omega), rfl⟩ dX9_tonesOf_34
      · refine lv_iload_n hx hb dX9_tonesOf_12 rfl (lv_at hl 1 rfl) ?_
        refine lv_aload_n hx hb dX9_tonesOf_13 rfl (lv_at hl 2 rfl) ?_
        refine f_9_5 F w (a := a) hka tb_6 dX9_tonesOf_14 ?_
        refine lv_iload_n hx hb dX9_tonesOf_17 rfl (lv_at hl 0 rfl) ?_
        refine g_iald F w (a := (a + 2)) (kd_w2 hka) (j := (Int.toNat v3_4)) (ix_z (by omega) (by omega)) (by omega) dX9_tonesOf_18 ?_
        obtain ⟨z3, bz3, ez3⟩ := Inv.ld (k := (Int.toNat v3_4)) hI (iv_wl hka _) (by have := lt_w hka; omega)
        refine r_val ez3 ?_
        refine lv_iload_n hx hb dX9_tonesOf_19 rfl (lv_at hl 3 rfl) ?_
        obtain ⟨z4, bz4, x0z4, ez4⟩ := shr_ex z3 y (by omega)
        refine lv_ishr hx hb dX9_tonesOf_20 ?_
        refine r_val ez4 ?_
        refine lv_iconst (v := zI 1) hx hb dX9_tonesOf_21 rfl ?_
        obtain ⟨z5, bz5, x0z5, x1z5, ez5⟩ := and_ex z4 1 (by omega) (by omega)
        refine lv_iand hx hb dX9_tonesOf_22 ?_
        refine r_val ez5 ?_
        refine lv_iload_n hx hb dX9_tonesOf_23 rfl (lv_at hl 0 rfl) ?_
        obtain ⟨z6, bz6, x0z6, ez6⟩ := shl_ex z5 v3_4
        refine lv_ishl hx hb dX9_tonesOf_24 ?_
        refine r_val ez6 ?_
        obtain ⟨z7, bz7, x0z7, ez7⟩ := or_ex v2_4 z6
        refine lv_ior hx hb dX9_tonesOf_25 ?_
        refine r_val ez7 ?_
        refine lv_istore_n (lv' := [(2, .int (zI z7)), (3, .int (zI v3_4)), (0, .ref (B + a)), (1, .int (zI y))]) hx hb dX9_tonesOf_26 rfl hl (by decide) rfl (fun ls hl => ?_)
        refine z_iinc (v := (v3_4 + 1)) (lv' := [(3, .int (zI (v3_4 + 1))), (2, .int (zI z7)), (0, .ref (B + a)), (1, .int (zI y))]) hx hb dX9_tonesOf_27 hl (k := 1) rfl (by omega) (by decide) rfl (fun ls hl => ?_)
        refine lv_goto (tgt := 4) hx hb dX9_tonesOf_30 (by decide) ?_
        exact ih4 (v3_4 + 1) z7 (by omega) (by omega)     (by omega) _ _ _ w (lv_sub hl [0, 1, 2, 3] rfl)
  exact lp4 _ 0 0 (by omega) (by omega) (Nat.lt_succ_self _) _ _ _ w (lv_sub hl [0, 1, 2, 3] rfl)
set_option maxRecDepth 4000 in
theorem q_X9_lineCount {l : Launch} {D : va_G} {B : Nat} {cy : Nat → ClassId} {M : Mem} {a : Nat} (hka : kd a = (9, 0, 0)) (hI : Inv M) : Ci l D B cy yX9_lineCount cX9_lineCount 3 (some .int) 1 20 [.ref (B + a)] M (fun r M1 => ∃ z : Int, r = zI z ∧ ((-2147483648) ≤ z ∧ z ≤ 2147483647) ∧ M1 = M) := by
  refine s_anyQ (by decide) (Nat.le_of_ble_eq_true rfl) ?_
  intro p e s m args below meth c ls Q F hr hlocks hQ w hl
  have F : CallFix p m c cX9_lineCount 3 s args TB RX9 := F
  have hx := F.1
  have hb := F.2.1
  have hl : lv_has ls 3 [(0, .ref (B + a))] := hl
  refine lv_iconst (v := zI 0) hx hb dX9_lineCount_0 rfl ?_
  refine lv_istore_n (lv' := [(1, .int (zI 0)), (0, .ref (B + a))]) hx hb dX9_lineCount_1 rfl hl (by decide) rfl (fun ls hl => ?_)
  refine lv_iconst (v := zI 0) hx hb dX9_lineCount_2 rfl ?_
  refine lv_istore_n (lv' := [(2, .int (zI 0)), (1, .int (zI 0)), (0, .ref (B + a))]) hx hb dX9_lineCount_3 rfl hl (by decide) rfl (fun ls hl => ?_)
  have lp4 : ∀ (f : Nat) (v2_4 : Int) (v1_4 : Int), (0 ≤ v2_4 ∧ v2_4 ≤ 12) → ((-2147483648) ≤ v1_4 ∧ v1_4 ≤ 2147483647) → (Int.toNat (12 - v2_4) < f) → ∀ (H : Heap) (locs : List Loc) (ls : Array Slot), Wd D B cy s s.heap M H locs → lv_has ls 3 [(2, .int (zI v2_4)), (1, .int (zI v1_4)), (0, .ref (B + a))] → W p l e (rmm 1 20) s m args below meth c H locs 0 0 Q (F0 m 4 ls []) := by
    intro f
    induction f with
    | zero => intros; omega
    | succ f ih4 =>
      intro v2_4 v1_4  iv2_4 iv1_4 hf4 H locs ls w hl
      refine lv_iload_n hx hb dX9_lineCount_4 rfl (lv_at hl 0 rfl) ?_
      refine lv_aload_n hx hb dX9_lineCount_5 rfl (lv_at hl 2 rfl) ?_
      refine f_9_0 F w (a := a) hka tb_0 dX9_lineCount_6 ?_
      obtain ⟨z1, bz1, ez1⟩ := Inv.ld (k := 0) hI (iv_w0 hka) (by have := lt_w hka; omega)
      refine r_val ez1 ?_
      refine z_icmp_ge (tgt := 30) hx hb (by omega) (by omega) dX9_lineCount_9 (by decide) (fun c2 => ?_) (fun c2 => ?_)
      · refine lv_iload_n hx hb dX9_lineCount_30 rfl (lv_at hl 1 rfl) ?_
        rw [hQ]
        exact e_i F w hr hlocks ⟨_, rfl, (by omega), rfl⟩ dX9_lineCount_31
      · refine lv_iload_n hx hb dX9_lineCount_12 rfl (lv_at hl 1 rfl) ?_
        refine lv_aload_n hx hb dX9_lineCount_13 rfl (lv_at hl 2 rfl) ?_
        refine f_9_5 F w (a := a) hka tb_6 dX9_lineCount_14 ?_
        refine lv_iload_n hx hb dX9_lineCount_17 rfl (lv_at hl 0 rfl) ?_
        refine g_iald F w (a := (a + 2)) (kd_w2 hka) (j := (Int.toNat v2_4)) (ix_z (by omega) (by omega)) (by omega) dX9_lineCount_18 ?_
        obtain ⟨z3, bz3, ez3⟩ := Inv.ld (k := (Int.toNat v2_4)) hI (iv_wl hka _) (by have := lt_w hka; omega)
        refine r_val ez3 ?_
        refine k_Si F w (As := [.int (zI z3)]) (rest := [.int (zI v1_4)]) (q_bitCount (x := z3) (by omega) ) gs_X9_60 hs_J6_bitCount_0f7a4 ⟨(Nat.le_of_ble_eq_true rfl), (Nat.le_of_ble_eq_true rfl)⟩ hl.1 rfl (Nat.le_of_ble_eq_true rfl) ⟨Nat.zero_le _, Nat.zero_le _⟩ dX9_lineCount_19 (fun r4 N5 H locs hp w => ?_)
        obtain ⟨hrz6, hMz6⟩ := hp
        rw [hMz6] at w
        obtain ⟨z6, bz6, ez6⟩ := pop_ex z3 (by omega)
        refine r_val (hrz6.trans ez6) ?_
        obtain ⟨z7, bz7, x0z7, ez7⟩ := add_ex v1_4 z6
        refine lv_iadd hx hb dX9_lineCount_22 ?_
        refine r_val ez7 ?_
        refine lv_istore_n (lv' := [(1, .int (zI z7)), (2, .int (zI v2_4)), (0, .ref (B + a))]) hx hb dX9_lineCount_23 rfl hl (by decide) rfl (fun ls hl => ?_)
        refine z_iinc (v := (v2_4 + 1)) (lv' := [(2, .int (zI (v2_4 + 1))), (1, .int (zI z7)), (0, .ref (B + a))]) hx hb dX9_lineCount_24 hl (k := 1) rfl (by omega) (by decide) rfl (fun ls hl => ?_)
        refine lv_goto (tgt := 4) hx hb dX9_lineCount_27 (by decide) ?_
        exact ih4 (v2_4 + 1) z7 (by omega) (by omega)     (by omega) _ _ _ w (lv_sub hl [0, 1, 2] rfl)
  exact lp4 _ 0 0 (by omega) (by omega) (Nat.lt_succ_self _) _ _ _ w (lv_sub hl [0, 1, 2] rfl)
theorem dX9_mostTones_0 : decode cX9_mostTones 0 = .ok (.iconst 0, 1) := dq0 kk_3 (by decide +kernel)
theorem dX9_mostTones_1 : decode cX9_mostTones 1 = .ok (.istore_n 1, 1) := dq0 kk_60 (by decide +kernel)
theorem dX9_mostTones_2 : decode cX9_mostTones 2 = .ok (.iconst 0, 1) := dq0 kk_3 (by decide +kernel)
theorem dX9_mostTones_3 : decode cX9_mostTones 3 = .ok (.istore_n 2, 1) := dq0 kk_61 (by decide +kernel)
theorem dX9_mostTones_4 : decode cX9_mostTones 4 = .ok (.iload_n 2, 1) := dq0 kk_28 (by decide +kernel)
theorem dX9_mostTones_5 : decode cX9_mostTones 5 = .ok (.aload_n 0, 1) := dq0 kk_42 (by decide +kernel)
theorem dX9_mostTones_6 : decode cX9_mostTones 6 = .ok (.getfield 15, 3) := dqV kk_180 (by decide +kernel)
theorem dX9_mostTones_9 : decode cX9_mostTones 9 = .ok (.if_icmp .ge 22, 3) := dqT kk_162 (by decide +kernel)
theorem dX9_mostTones_31 : decode cX9_mostTones 31 = .ok (.iload_n 1, 1) := dq0 kk_27 (by decide +kernel)
theorem dX9_mostTones_32 : decode cX9_mostTones 32 = .ok (.ireturn, 1) := dq0 kk_172 (by decide +kernel)
theorem dX9_mostTones_12 : decode cX9_mostTones 12 = .ok (.iload_n 1, 1) := dq0 kk_27 (by decide +kernel)
theorem dX9_mostTones_13 : decode cX9_mostTones 13 = .ok (.aload_n 0, 1) := dq0 kk_42 (by decide +kernel)
theorem dX9_mostTones_14 : decode cX9_mostTones 14 = .ok (.iload_n 2, 1) := dq0 kk_28 (by decide +kernel)
theorem dX9_mostTones_15 : decode cX9_mostTones 15 = .ok (.invokevirtual 66, 3) := dqV kk_182 (by decide +kernel)
theorem tk_X9_tonesOf : Cond.code yX9_tonesOf cX9_tonesOf 4 (some .int) ∈ TB := wtk_X9_tonesOf
theorem gc_X9_tonesOf : GoodIn TB (cw yX9_tonesOf cX9_tonesOf 4 (some .int)) := goodIn_c2 tk_X9_tonesOf
theorem tb_101 : Cond.methodLink "ToneLines$Word" 66 yX9_tonesOf ∈ TB := tbm (tc4 (List.mem_of_getElem? (i := 143) rfl)) rfl
theorem tb_102 : Cond.instanceMethod yX9_tonesOf ∈ TB := wtb_43
theorem tb_103 : Cond.selects "ToneLines$Word" yX9_tonesOf yX9_tonesOf ∈ TB := wtb_44
theorem gv_X9_66 : GoodIn TB (wsV RX9 66 RX9 yX9_tonesOf (cw yX9_tonesOf cX9_tonesOf 4 (some .int))) := goodIn_4 tb_101 tb_102 tb_103 tb_5 gc_X9_tonesOf
theorem hv_X9_tonesOf : yX9_tonesOf.cls = RX9 ∧ yX9_tonesOf.cls ≠ "java/lang/invoke/MethodHandle" ∧ yX9_tonesOf.cls ≠ "java/lang/invoke/VarHandle" ∧ (parseMethodDescriptor yX9_tonesOf.desc).map (fun d => d.parameters.length) = some 1 := whv_X9_tonesOf
theorem dX9_mostTones_18 : decode cX9_mostTones 18 = .ok (.invokestatic 60, 3) := dqV kk_184 (by decide +kernel)
theorem dX9_mostTones_21 : decode cX9_mostTones 21 = .ok (.invokestatic 69, 3) := dqV kk_184 (by decide +kernel)
theorem dX9_mostTones_24 : decode cX9_mostTones 24 = .ok (.istore_n 1, 1) := dq0 kk_60 (by decide +kernel)
theorem dX9_mostTones_25 : decode cX9_mostTones 25 = .ok (.iinc 2 1, 3) := dqI kk_132 (by decide +kernel)
theorem dX9_mostTones_28 : decode cX9_mostTones 28 = .ok (.goto (-24), 3) := dqT kk_167 (by decide +kernel)
set_option maxRecDepth 4000 in
theorem q_X9_mostTones {l : Launch} {D : va_G} {B : Nat} {cy : Nat → ClassId} {M : Mem} {a : Nat} (hka : kd a = (9, 0, 0)) (hI : Inv M) : Ci l D B cy yX9_mostTones cX9_mostTones 3 (some .int) 1 23 [.ref (B + a)] M (fun r M1 => ∃ z : Int, r = zI z ∧ (0 ≤ z ∧ z ≤ 12) ∧ M1 = M) := by
  refine s_anyQ (by decide) (Nat.le_of_ble_eq_true rfl) ?_
  intro p e s m args below meth c ls Q F hr hlocks hQ w hl
  have F : CallFix p m c cX9_mostTones 3 s args TB RX9 := F
  have hx := F.1
  have hb := F.2.1
  have hl : lv_has ls 3 [(0, .ref (B + a))] := hl
  refine lv_iconst (v := zI 0) hx hb dX9_mostTones_0 rfl ?_
  refine lv_istore_n (lv' := [(1, .int (zI 0)), (0, .ref (B + a))]) hx hb dX9_mostTones_1 rfl hl (by decide) rfl (fun ls hl => ?_)
  refine lv_iconst (v := zI 0) hx hb dX9_mostTones_2 rfl ?_
  refine lv_istore_n (lv' := [(2, .int (zI 0)), (1, .int (zI 0)), (0, .ref (B + a))]) hx hb dX9_mostTones_3 rfl hl (by decide) rfl (fun ls hl => ?_)
  have lp4 : ∀ (f : Nat) (v2_4 : Int) (v1_4 : Int), (0 ≤ v2_4 ∧ v2_4 ≤ 12) → (0 ≤ v1_4 ∧ v1_4 ≤ 12) → (Int.toNat (12 - v2_4) < f) → ∀ (H : Heap) (locs : List Loc) (ls : Array Slot), Wd D B cy s s.heap M H locs → lv_has ls 3 [(2, .int (zI v2_4)), (1, .int (zI v1_4)), (0, .ref (B + a))] → W p l e (rmm 1 23) s m args below meth c H locs 0 0 Q (F0 m 4 ls []) := by
    intro f
    induction f with
    | zero => intros; omega
    | succ f ih4 =>
      intro v2_4 v1_4  iv2_4 iv1_4 hf4 H locs ls w hl
      refine lv_iload_n hx hb dX9_mostTones_4 rfl (lv_at hl 0 rfl) ?_
      refine lv_aload_n hx hb dX9_mostTones_5 rfl (lv_at hl 2 rfl) ?_
      refine f_9_1 F w (a := a) hka tb_1 dX9_mostTones_6 ?_
      obtain ⟨z1, bz1, ez1⟩ := Inv.ld (k := 1) hI (iv_w1 hka) (by have := lt_w hka; omega)
      refine r_val ez1 ?_
      refine z_icmp_ge (tgt := 31) hx hb (by omega) (by omega) dX9_mostTones_9 (by decide) (fun c2 => ?_) (fun c2 => ?_)
      · refine lv_iload_n hx hb dX9_mostTones_31 rfl (lv_at hl 1 rfl) ?_
        rw [hQ]
        exact e_i F w hr hlocks ⟨_, rfl, (by omega), rfl⟩ dX9_mostTones_32
      · refine lv_iload_n hx hb dX9_mostTones_12 rfl (lv_at hl 1 rfl) ?_
        refine lv_aload_n hx hb dX9_mostTones_13 rfl (lv_at hl 2 rfl) ?_
        refine lv_iload_n hx hb dX9_mostTones_14 rfl (lv_at hl 0 rfl) ?_
        refine k_Vi F w (As := [.int (zI v2_4)]) (rest := [.int (zI v1_4)]) (a := a) (kd_lt (a := a) hka (by decide)) (sh_9 hka _ _) rfl (q_X9_tonesOf (a := a) hka (y := v2_4) (by omega)  hI) gv_X9_66 hv_X9_tonesOf ⟨(Nat.le_of_ble_eq_true rfl), (Nat.le_of_ble_eq_true rfl)⟩ hl.1 rfl (Nat.le_of_ble_eq_true rfl) ⟨Nat.zero_le _, Nat.zero_le _⟩ dX9_mostTones_15 (fun r3 N4 H locs hp w => ?_)
        obtain ⟨z5, rfl, bz5, hMN4⟩ := hp
        rw [hMN4] at w
        refine k_Si F w (As := [.int (zI z5)]) (rest := [.int (zI v1_4)]) (q_bitCount (x := z5) (by omega) ) gs_X9_60 hs_J6_bitCount_0f7a4 ⟨(Nat.le_of_ble_eq_true rfl), (Nat.le_of_ble_eq_true rfl)⟩ hl.1 rfl (Nat.le_of_ble_eq_true rfl) ⟨Nat.zero_le _, Nat.zero_le _⟩ dX9_mostTones_18 (fun r6 N7 H locs hp w => ?_)
        obtain ⟨hrz8, hMz8⟩ := hp
        rw [hMz8] at w
        obtain ⟨z8, bz8, ez8⟩ := pop_ex z5 (by omega)
        refine r_val (hrz8.trans ez8) ?_
        obtain ⟨z9, bz9, ez9⟩ := max_ex v1_4 z8 (by omega) (by omega)
        refine g_max F hl.1 tb_50 tb_51 tb_52 tq_max (Nat.le_of_ble_eq_true rfl) (Nat.le_of_ble_eq_true rfl) (Nat.zero_le _) (Nat.zero_le _) (v := zI z9) ez9 dX9_mostTones_21 ?_
        refine lv_istore_n (lv' := [(1, .int (zI z9)), (2, .int (zI v2_4)), (0, .ref (B + a))]) hx hb dX9_mostTones_24 rfl hl (by decide) rfl (fun ls hl => ?_)
        refine z_iinc (v := (v2_4 + 1)) (lv' := [(2, .int (zI (v2_4 + 1))), (1, .int (zI z9)), (0, .ref (B + a))]) hx hb dX9_mostTones_25 hl (k := 1) rfl (by omega) (by decide) rfl (fun ls hl => ?_)
        refine lv_goto (tgt := 4) hx hb dX9_mostTones_28 (by decide) ?_
        exact ih4 (v2_4 + 1) z9 (by omega) (by omega)     (by omega) _ _ _ w (lv_sub hl [0, 1, 2] rfl)
  exact lp4 _ 0 0 (by omega) (by omega) (Nat.lt_succ_self _) _ _ _ w (lv_sub hl [0, 1, 2] rfl)
set_option maxRecDepth 4000 in
theorem q_X9_mostSyllables {l : Launch} {D : va_G} {B : Nat} {cy : Nat → ClassId} {M : Mem} {a : Nat} (hka : kd a = (9, 0, 0)) (hI : Inv M) : Ci l D B cy yX9_mostSyllables cX9_mostSyllables 3 (some .int) 1 20 [.ref (B + a)] M (fun r M1 => ∃ z : Int, r = zI z ∧ (0 ≤ z ∧ z ≤ 12) ∧ M1 = M) := by
  refine s_anyQ (by decide) (Nat.le_of_ble_eq_true rfl) ?_
  intro p e s m args below meth c ls Q F hr hlocks hQ w hl
  have F : CallFix p m c cX9_mostSyllables 3 s args TB RX9 := F
  have hx := F.1
  have hb := F.2.1
  have hl : lv_has ls 3 [(0, .ref (B + a))] := hl
  refine lv_iconst (v := zI 0) hx hb dX9_mostSyllables_0 rfl ?_
  refine lv_istore_n (lv' := [(1, .int (zI 0)), (0, .ref (B + a))]) hx hb dX9_mostSyllables_1 rfl hl (by decide) rfl (fun ls hl => ?_)
  refine lv_iconst (v := zI 0) hx hb dX9_mostSyllables_2 rfl ?_
  refine lv_istore_n (lv' := [(2, .int (zI 0)), (1, .int (zI 0)), (0, .ref (B + a))]) hx hb dX9_mostSyllables_3 rfl hl (by decide) rfl (fun ls hl => ?_)
  have lp4 : ∀ (f : Nat) (v2_4 : Int) (v1_4 : Int), (0 ≤ v2_4 ∧ v2_4 ≤ 12) → (0 ≤ v1_4 ∧ v1_4 ≤ 12) → (Int.toNat (12 - v2_4) < f) → ∀ (H : Heap) (locs : List Loc) (ls : Array Slot), Wd D B cy s s.heap M H locs → lv_has ls 3 [(2, .int (zI v2_4)), (1, .int (zI v1_4)), (0, .ref (B + a))] → W p l e (rmm 1 20) s m args below meth c H locs 0 0 Q (F0 m 4 ls []) := by
    intro f
    induction f with
    | zero => intros; omega
    | succ f ih4 =>
      intro v2_4 v1_4  iv2_4 iv1_4 hf4 H locs ls w hl
      refine lv_iload_n hx hb dX9_mostSyllables_4 rfl (lv_at hl 0 rfl) ?_
      refine lv_aload_n hx hb dX9_mostSyllables_5 rfl (lv_at hl 2 rfl) ?_
      refine f_9_0 F w (a := a) hka tb_0 dX9_mostSyllables_6 ?_
      obtain ⟨z1, bz1, ez1⟩ := Inv.ld (k := 0) hI (iv_w0 hka) (by have := lt_w hka; omega)
      refine r_val ez1 ?_
      refine z_icmp_ge (tgt := 32) hx hb (by omega) (by omega) dX9_mostSyllables_9 (by decide) (fun c2 => ?_) (fun c2 => ?_)
      · refine lv_iload_n hx hb dX9_mostSyllables_32 rfl (lv_at hl 1 rfl) ?_
        rw [hQ]
        exact e_i F w hr hlocks ⟨_, rfl, (by omega), rfl⟩ dX9_mostSyllables_33
      · refine lv_iload_n hx hb dX9_mostSyllables_12 rfl (lv_at hl 1 rfl) ?_
        refine lv_aload_n hx hb dX9_mostSyllables_13 rfl (lv_at hl 2 rfl) ?_
        refine f_9_5 F w (a := a) hka tb_6 dX9_mostSyllables_14 ?_
        refine lv_iload_n hx hb dX9_mostSyllables_17 rfl (lv_at hl 0 rfl) ?_
        refine g_iald F w (a := (a + 2)) (kd_w2 hka) (j := (Int.toNat v2_4)) (ix_z (by omega) (by omega)) (by omega) dX9_mostSyllables_18 ?_
        obtain ⟨z3, bz3, ez3⟩ := Inv.ld (k := (Int.toNat v2_4)) hI (iv_wl hka _) (by have := lt_w hka; omega)
        refine r_val ez3 ?_
        refine k_Si F w (As := [.int (zI z3)]) (rest := [.int (zI v1_4)]) (q_bitCount (x := z3) (by omega) ) gs_X9_60 hs_J6_bitCount_0f7a4 ⟨(Nat.le_of_ble_eq_true rfl), (Nat.le_of_ble_eq_true rfl)⟩ hl.1 rfl (Nat.le_of_ble_eq_true rfl) ⟨Nat.zero_le _, Nat.zero_le _⟩ dX9_mostSyllables_19 (fun r4 N5 H locs hp w => ?_)
        obtain ⟨hrz6, hMz6⟩ := hp
        rw [hMz6] at w
        obtain ⟨z6, bz6, ez6⟩ := pop_ex z3 (by omega)
        refine r_val (hrz6.trans ez6) ?_
        obtain ⟨z7, bz7, ez7⟩ := max_ex v1_4 z6 (by omega) (by omega)
        refine g_max F hl.1 tb_50 tb_51 tb_52 tq_max (Nat.le_of_ble_eq_true rfl) (Nat.le_of_ble_eq_true rfl) (Nat.zero_le _) (Nat.zero_le _) (v := zI z7) ez7 dX9_mostSyllables_22 ?_
        refine lv_istore_n (lv' := [(1, .int (zI z7)), (2, .int (zI v2_4)), (0, .ref (B + a))]) hx hb dX9_mostSyllables_25 rfl hl (by decide) rfl (fun ls hl => ?_)
        refine z_iinc (v := (v2_4 + 1)) (lv' := [(2, .int (zI (v2_4 + 1))), (1, .int (zI z7)), (0, .ref (B + a))]) hx hb dX9_mostSyllables_26 hl (k := 1) rfl (by omega) (by decide) rfl (fun ls hl => ?_)
        refine lv_goto (tgt := 4) hx hb dX9_mostSyllables_29 (by decide) ?_
        exact ih4 (v2_4 + 1) z7 (by omega) (by omega)     (by omega) _ _ _ w (lv_sub hl [0, 1, 2] rfl)
  exact lp4 _ 0 0 (by omega) (by omega) (Nat.lt_succ_self _) _ _ _ w (lv_sub hl [0, 1, 2] rfl)
theorem dX9_linkedFromFirst_0 : decode cX9_linkedFromFirst 0 = .ok (.aload_n 0, 1) := dq0 kk_42 (by decide +kernel)
theorem dX9_linkedFromFirst_1 : decode cX9_linkedFromFirst 1 = .ok (.invokevirtual 48, 3) := dqV kk_182 (by decide +kernel)
theorem dX9_linkedFromFirst_4 : decode cX9_linkedFromFirst 4 = .ok (.invokestatic 75, 3) := dqV kk_184 (by decide +kernel)
theorem dX9_linkedFromFirst_7 : decode cX9_linkedFromFirst 7 = .ok (.istore_n 1, 1) := dq0 kk_60 (by decide +kernel)
theorem dX9_linkedFromFirst_8 : decode cX9_linkedFromFirst 8 = .ok (.iload_n 1, 1) := dq0 kk_27 (by decide +kernel)
theorem dX9_linkedFromFirst_9 : decode cX9_linkedFromFirst 9 = .ok (.iconst (-1), 1) := dq0 kk_2 (by decide +kernel)
theorem dX9_linkedFromFirst_10 : decode cX9_linkedFromFirst 10 = .ok (.if_icmp .ne 10, 3) := dqT kk_160 (by decide +kernel)
theorem dX9_linkedFromFirst_20 : decode cX9_linkedFromFirst 20 = .ok (.iload_n 1, 1) := dq0 kk_27 (by decide +kernel)
theorem dX9_linkedFromFirst_21 : decode cX9_linkedFromFirst 21 = .ok (.ireturn, 1) := dq0 kk_172 (by decide +kernel)
theorem dX9_linkedFromFirst_13 : decode cX9_linkedFromFirst 13 = .ok (.aload_n 0, 1) := dq0 kk_42 (by decide +kernel)
theorem dX9_linkedFromFirst_14 : decode cX9_linkedFromFirst 14 = .ok (.getfield 15, 3) := dqV kk_180 (by decide +kernel)
theorem dX9_linkedFromFirst_17 : decode cX9_linkedFromFirst 17 = .ok (.goto 4, 3) := dqT kk_167 (by decide +kernel)
set_option maxRecDepth 4000 in
theorem q_X9_linkedFromFirst {l : Launch} {D : va_G} {B : Nat} {cy : Nat → ClassId} {M : Mem} {a : Nat} (hka : kd a = (9, 0, 0)) (hI : Inv M) : Ci l D B cy yX9_linkedFromFirst cX9_linkedFromFirst 2 (some .int) 2 40 [.ref (B + a)] M (fun r M1 => ∃ z : Int, r = zI z ∧ (0 ≤ z ∧ z ≤ 12) ∧ M1 = M) := by
  refine s_anyQ (by decide) (Nat.le_of_ble_eq_true rfl) ?_
  intro p e s m args below meth c ls Q F hr hlocks hQ w hl
  have F : CallFix p m c cX9_linkedFromFirst 2 s args TB RX9 := F
  have hx := F.1
  have hb := F.2.1
  have hl : lv_has ls 2 [(0, .ref (B + a))] := hl
  refine lv_aload_n hx hb dX9_linkedFromFirst_0 rfl (lv_at hl 0 rfl) ?_
  refine k_Vi F w (As := []) (rest := []) (a := a) (kd_lt (a := a) hka (by decide)) (sh_9 hka _ _) rfl (q_X9_bare (a := a) hka  hI) gv_X9_48 hv_X9_bare ⟨(Nat.le_of_ble_eq_true rfl), (Nat.le_of_ble_eq_true rfl)⟩ hl.1 rfl (Nat.le_of_ble_eq_true rfl) ⟨Nat.zero_le _, Nat.zero_le _⟩ dX9_linkedFromFirst_1 (fun r1 N2 H locs hp w => ?_)
  obtain ⟨z3, rfl, bz3, hMN2⟩ := hp
  rw [hMN2] at w
  refine k_Ni F w (As := [.int (zI z3)]) (rest := []) (q_lowest (x := z3) (by omega) ) gc_X11_lowest tb_95 tb_96 (by decide) hs_X11_lowest ⟨(Nat.le_of_ble_eq_true rfl), (Nat.le_of_ble_eq_true rfl)⟩ hl.1 rfl (Nat.le_of_ble_eq_true rfl) ⟨Nat.zero_le _, Nat.zero_le _⟩ dX9_linkedFromFirst_4 (fun r4 N5 H locs hp w => ?_)
  obtain ⟨hrz6, hMz6⟩ := hp
  rw [hMz6] at w
  obtain ⟨z6, bz6, xz6, ez6⟩ := low_ex z3 (by omega)
  refine r_val (hrz6.trans ez6) ?_
  refine lv_istore_n (lv' := [(1, .int (zI z6)), (0, .ref (B + a))]) hx hb dX9_linkedFromFirst_7 rfl hl (by decide) rfl (fun ls hl => ?_)
  refine lv_iload_n hx hb dX9_linkedFromFirst_8 rfl (lv_at hl 0 rfl) ?_
  refine lv_iconst (v := zI (-1)) hx hb dX9_linkedFromFirst_9 rfl ?_
  refine z_icmp_ne (tgt := 20) hx hb (by omega) (by omega) dX9_linkedFromFirst_10 (by decide) (fun c7 => ?_) (fun c7 => ?_)
  · refine lv_iload_n hx hb dX9_linkedFromFirst_20 rfl (lv_at hl 0 rfl) ?_
    rw [hQ]
    exact e_i F w hr hlocks ⟨_, rfl, (by omega), rfl⟩ dX9_linkedFromFirst_21
  · refine lv_aload_n hx hb dX9_linkedFromFirst_13 rfl (lv_at hl 1 rfl) ?_
    refine f_9_1 F w (a := a) hka tb_1 dX9_linkedFromFirst_14 ?_
    obtain ⟨z8, bz8, ez8⟩ := Inv.ld (k := 1) hI (iv_w1 hka) (by have := lt_w hka; omega)
    refine r_val ez8 ?_
    refine lv_goto (tgt := 21) hx hb dX9_linkedFromFirst_17 (by decide) ?_
    rw [hQ]
    exact e_i F w hr hlocks ⟨_, rfl, (by omega), rfl⟩ dX9_linkedFromFirst_21
theorem dX9_fallsUpTo_0 : decode cX9_fallsUpTo 0 = .ok (.iconst 0, 1) := dq0 kk_3 (by decide +kernel)
theorem dX9_fallsUpTo_1 : decode cX9_fallsUpTo 1 = .ok (.istore_n 2, 1) := dq0 kk_61 (by decide +kernel)
theorem dX9_fallsUpTo_2 : decode cX9_fallsUpTo 2 = .ok (.iconst 0, 1) := dq0 kk_3 (by decide +kernel)
theorem dX9_fallsUpTo_3 : decode cX9_fallsUpTo 3 = .ok (.istore_n 3, 1) := dq0 kk_62 (by decide +kernel)
theorem dX9_fallsUpTo_4 : decode cX9_fallsUpTo 4 = .ok (.iconst 0, 1) := dq0 kk_3 (by decide +kernel)
theorem dX9_fallsUpTo_5 : decode cX9_fallsUpTo 5 = .ok (.istore 4, 2) := dqU kk_54 (by decide +kernel)
theorem dX9_fallsUpTo_7 : decode cX9_fallsUpTo 7 = .ok (.iconst 0, 1) := dq0 kk_3 (by decide +kernel)
theorem dX9_fallsUpTo_8 : decode cX9_fallsUpTo 8 = .ok (.istore 5, 2) := dqU kk_54 (by decide +kernel)
theorem dX9_fallsUpTo_10 : decode cX9_fallsUpTo 10 = .ok (.iload 5, 2) := dqU kk_21 (by decide +kernel)
theorem dX9_fallsUpTo_12 : decode cX9_fallsUpTo 12 = .ok (.iload_n 1, 1) := dq0 kk_27 (by decide +kernel)
theorem dX9_fallsUpTo_13 : decode cX9_fallsUpTo 13 = .ok (.if_icmp .gt 62, 3) := dqT kk_163 (by decide +kernel)
theorem dX9_fallsUpTo_75 : decode cX9_fallsUpTo 75 = .ok (.iload_n 2, 1) := dq0 kk_28 (by decide +kernel)
theorem dX9_fallsUpTo_76 : decode cX9_fallsUpTo 76 = .ok (.ireturn, 1) := dq0 kk_172 (by decide +kernel)
theorem dX9_fallsUpTo_16 : decode cX9_fallsUpTo 16 = .ok (.iload 5, 2) := dqU kk_21 (by decide +kernel)
theorem dX9_fallsUpTo_18 : decode cX9_fallsUpTo 18 = .ok (.aload_n 0, 1) := dq0 kk_42 (by decide +kernel)
theorem dX9_fallsUpTo_19 : decode cX9_fallsUpTo 19 = .ok (.getfield 9, 3) := dqV kk_180 (by decide +kernel)
theorem dX9_fallsUpTo_22 : decode cX9_fallsUpTo 22 = .ok (.if_icmp .ge 53, 3) := dqT kk_162 (by decide +kernel)
theorem dX9_fallsUpTo_25 : decode cX9_fallsUpTo 25 = .ok (.aload_n 0, 1) := dq0 kk_42 (by decide +kernel)
theorem dX9_fallsUpTo_26 : decode cX9_fallsUpTo 26 = .ok (.getfield 24, 3) := dqV kk_180 (by decide +kernel)
theorem dX9_fallsUpTo_29 : decode cX9_fallsUpTo 29 = .ok (.iload 5, 2) := dqU kk_21 (by decide +kernel)
theorem dX9_fallsUpTo_31 : decode cX9_fallsUpTo 31 = .ok (.iaload, 1) := dq0 kk_46 (by decide +kernel)
theorem dX9_fallsUpTo_32 : decode cX9_fallsUpTo 32 = .ok (.ifCond .ne 9, 3) := dqT kk_154 (by decide +kernel)
theorem dX9_fallsUpTo_41 : decode cX9_fallsUpTo 41 = .ok (.aload_n 0, 1) := dq0 kk_42 (by decide +kernel)
theorem dX9_fallsUpTo_42 : decode cX9_fallsUpTo 42 = .ok (.getfield 24, 3) := dqV kk_180 (by decide +kernel)
theorem dX9_fallsUpTo_45 : decode cX9_fallsUpTo 45 = .ok (.iload 5, 2) := dqU kk_21 (by decide +kernel)
theorem dX9_fallsUpTo_47 : decode cX9_fallsUpTo 47 = .ok (.iaload, 1) := dq0 kk_46 (by decide +kernel)
theorem dX9_fallsUpTo_48 : decode cX9_fallsUpTo 48 = .ok (.iconst 2, 1) := dq0 kk_5 (by decide +kernel)
theorem dX9_fallsUpTo_49 : decode cX9_fallsUpTo 49 = .ok (.if_icmp .ne 20, 3) := dqT kk_160 (by decide +kernel)
theorem dX9_fallsUpTo_69 : decode cX9_fallsUpTo 69 = .ok (.iinc 5 1, 3) := dqI kk_132 (by decide +kernel)
theorem dX9_fallsUpTo_72 : decode cX9_fallsUpTo 72 = .ok (.goto (-62), 3) := dqT kk_167 (by decide +kernel)
theorem dX9_fallsUpTo_52 : decode cX9_fallsUpTo 52 = .ok (.iload_n 3, 1) := dq0 kk_29 (by decide +kernel)
theorem dX9_fallsUpTo_53 : decode cX9_fallsUpTo 53 = .ok (.ifCond .eq 11, 3) := dqT kk_153 (by decide +kernel)
theorem dX9_fallsUpTo_64 : decode cX9_fallsUpTo 64 = .ok (.iconst 1, 1) := dq0 kk_4 (by decide +kernel)
theorem dX9_fallsUpTo_65 : decode cX9_fallsUpTo 65 = .ok (.istore_n 3, 1) := dq0 kk_62 (by decide +kernel)
theorem dX9_fallsUpTo_66 : decode cX9_fallsUpTo 66 = .ok (.iconst 0, 1) := dq0 kk_3 (by decide +kernel)
theorem dX9_fallsUpTo_67 : decode cX9_fallsUpTo 67 = .ok (.istore 4, 2) := dqU kk_54 (by decide +kernel)
theorem dX9_fallsUpTo_35 : decode cX9_fallsUpTo 35 = .ok (.iconst 1, 1) := dq0 kk_4 (by decide +kernel)
theorem dX9_fallsUpTo_36 : decode cX9_fallsUpTo 36 = .ok (.istore 4, 2) := dqU kk_54 (by decide +kernel)
theorem dX9_fallsUpTo_38 : decode cX9_fallsUpTo 38 = .ok (.goto 31, 3) := dqT kk_167 (by decide +kernel)
theorem dX9_fallsUpTo_56 : decode cX9_fallsUpTo 56 = .ok (.iload 4, 2) := dqU kk_21 (by decide +kernel)
theorem dX9_fallsUpTo_58 : decode cX9_fallsUpTo 58 = .ok (.ifCond .eq 6, 3) := dqT kk_153 (by decide +kernel)
theorem dX9_fallsUpTo_61 : decode cX9_fallsUpTo 61 = .ok (.iinc 2 1, 3) := dqI kk_132 (by decide +kernel)
set_option maxRecDepth 4000 in
theorem q_X9_fallsUpTo {l : Launch} {D : va_G} {B : Nat} {cy : Nat → ClassId} {M : Mem} {a : Nat} (hka : kd a = (9, 0, 0)) {t : Int} (ht : (-2147483648) ≤ t ∧ t ≤ 2147483647) (hI : Inv M) : Ci l D B cy yX9_fallsUpTo cX9_fallsUpTo 6 (some .int) 0 0 [.ref (B + a), .int (zI t)] M (fun r M1 => ∃ z : Int, r = zI z ∧ ((-2147483648) ≤ z ∧ z ≤ 2147483647) ∧ M1 = M) := by
  refine s_anyQ (by decide) (Nat.le_of_ble_eq_true rfl) ?_
  intro p e s m args below meth c ls Q F hr hlocks hQ w hl
  have F : CallFix p m c cX9_fallsUpTo 6 s args TB RX9 := F
  have hx := F.1
  have hb := F.2.1
  have hl : lv_has ls 6 [(0, .ref (B + a)), (1, .int (zI t))] := hl
  refine lv_iconst (v := zI 0) hx hb dX9_fallsUpTo_0 rfl ?_
  refine lv_istore_n (lv' := [(2, .int (zI 0)), (0, .ref (B + a)), (1, .int (zI t))]) hx hb dX9_fallsUpTo_1 rfl hl (by decide) rfl (fun ls hl => ?_)
  refine lv_iconst (v := zI 0) hx hb dX9_fallsUpTo_2 rfl ?_
  refine lv_istore_n (lv' := [(3, .int (zI 0)), (2, .int (zI 0)), (0, .ref (B + a)), (1, .int (zI t))]) hx hb dX9_fallsUpTo_3 rfl hl (by decide) rfl (fun ls hl => ?_)
  refine lv_iconst (v := zI 0) hx hb dX9_fallsUpTo_4 rfl ?_
  refine lv_istore (lv' := [(4, .int (zI 0)), (3, .int (zI 0)), (2, .int (zI 0)), (0, .ref (B + a)), (1, .int (zI t))]) hx hb dX9_fallsUpTo_5 hl (by decide) rfl (fun ls hl => ?_)
  refine lv_iconst (v := zI 0) hx hb dX9_fallsUpTo_7 rfl ?_
  refine lv_istore (lv' := [(5, .int (zI 0)), (4, .int (zI 0)), (3, .int (zI 0)), (2, .int (zI 0)), (0, .ref (B + a)), (1, .int (zI t))]) hx hb dX9_fallsUpTo_8 hl (by decide) rfl (fun ls hl => ?_)
  have lp10 : ∀ (f : Nat) (v5_10 : Int) (v4_10 : Int) (v3_10 : Int) (v2_10 : Int), (0 ≤ v5_10 ∧ v5_10 ≤ 12) → (0 ≤ v4_10 ∧ v4_10 ≤ 1) → (0 ≤ v3_10 ∧ v3_10 ≤ 1) → ((-2147483648) ≤ v2_10 ∧ v2_10 ≤ 2147483647) → (Int.toNat (12 - v5_10) < f) → ∀ (H : Heap) (locs : List Loc) (ls : Array Slot), Wd D B cy s s.heap M H locs → lv_has ls 6 [(5, .int (zI v5_10)), (4, .int (zI v4_10)), (3, .int (zI v3_10)), (2, .int (zI v2_10)), (0, .ref (B + a)), (1, .int (zI t))] → W p l e (rmm 0 0) s m args below meth c H locs 0 0 Q (F0 m 10 ls []) := by
    intro f
    induction f with
    | zero => intros; omega
    | succ f ih10 =>
      intro v5_10 v4_10 v3_10 v2_10  iv5_10 iv4_10 iv3_10 iv2_10 hf10 H locs ls w hl
      refine lv_iload hx hb dX9_fallsUpTo_10 (lv_at hl 0 rfl) ?_
      refine lv_iload_n hx hb dX9_fallsUpTo_12 rfl (lv_at hl 5 rfl) ?_
      refine z_icmp_gt (tgt := 75) hx hb (by omega) (by omega) dX9_fallsUpTo_13 (by decide) (fun c1 => ?_) (fun c1 => ?_)
      · refine lv_iload_n hx hb dX9_fallsUpTo_75 rfl (lv_at hl 3 rfl) ?_
        rw [hQ]
        exact e_i F w hr hlocks ⟨_, rfl, (by omega), rfl⟩ dX9_fallsUpTo_76
      · refine lv_iload hx hb dX9_fallsUpTo_16 (lv_at hl 0 rfl) ?_
        refine lv_aload_n hx hb dX9_fallsUpTo_18 rfl (lv_at hl 4 rfl) ?_
        refine f_9_0 F w (a := a) hka tb_0 dX9_fallsUpTo_19 ?_
        obtain ⟨z2, bz2, ez2⟩ := Inv.ld (k := 0) hI (iv_w0 hka) (by have := lt_w hka; omega)
        refine r_val ez2 ?_
        refine z_icmp_ge (tgt := 75) hx hb (by omega) (by omega) dX9_fallsUpTo_22 (by decide) (fun c3 => ?_) (fun c3 => ?_)
        · refine lv_iload_n hx hb dX9_fallsUpTo_75 rfl (lv_at hl 3 rfl) ?_
          rw [hQ]
          exact e_i F w hr hlocks ⟨_, rfl, (by omega), rfl⟩ dX9_fallsUpTo_76
        · refine lv_aload_n hx hb dX9_fallsUpTo_25 rfl (lv_at hl 4 rfl) ?_
          refine f_9_4 F w (a := a) hka tb_7 dX9_fallsUpTo_26 ?_
          refine lv_iload hx hb dX9_fallsUpTo_29 (lv_at hl 0 rfl) ?_
          refine g_iald F w (a := (a + 1)) (kd_w1 hka) (j := (Int.toNat v5_10)) (ix_z (by omega) (by omega)) (by omega) dX9_fallsUpTo_31 ?_
          obtain ⟨z4, bz4, ez4⟩ := Inv.ld (k := (Int.toNat v5_10)) hI (iv_wk hka _) (by have := lt_w hka; omega)
          refine r_val ez4 ?_
          refine z_if_ne (tgt := 41) hx hb (by omega) dX9_fallsUpTo_32 (by decide) (fun c5 => ?_) (fun c5 => ?_)
          · refine lv_aload_n hx hb dX9_fallsUpTo_41 rfl (lv_at hl 4 rfl) ?_
            refine f_9_4 F w (a := a) hka tb_7 dX9_fallsUpTo_42 ?_
            refine lv_iload hx hb dX9_fallsUpTo_45 (lv_at hl 0 rfl) ?_
            refine g_iald F w (a := (a + 1)) (kd_w1 hka) (j := (Int.toNat v5_10)) (ix_z (by omega) (by omega)) (by omega) dX9_fallsUpTo_47 ?_
            refine r_val (v := zI z4) (ez4) ?_
            refine lv_iconst (v := zI 2) hx hb dX9_fallsUpTo_48 rfl ?_
            refine z_icmp_ne (tgt := 69) hx hb (by omega) (by omega) dX9_fallsUpTo_49 (by decide) (fun c6 => ?_) (fun c6 => ?_)
            · refine z_iinc (v := (v5_10 + 1)) (lv' := [(5, .int (zI (v5_10 + 1))), (4, .int (zI v4_10)), (3, .int (zI v3_10)), (2, .int (zI v2_10)), (0, .ref (B + a)), (1, .int (zI t))]) hx hb dX9_fallsUpTo_69 hl (k := 0) rfl (by omega) (by decide) rfl (fun ls hl => ?_)
              refine lv_goto (tgt := 10) hx hb dX9_fallsUpTo_72 (by decide) ?_
              exact ih10 (v5_10 + 1) v4_10 v3_10 v2_10 (by omega) (by omega) (by omega) (by omega)     (by omega) _ _ _ w (lv_sub hl [0, 1, 2, 3, 4, 5] rfl)
            · refine lv_iload_n hx hb dX9_fallsUpTo_52 rfl (lv_at hl 2 rfl) ?_
              refine z_if_eq (tgt := 64) hx hb (by omega) dX9_fallsUpTo_53 (by decide) (fun c7 => ?_) (fun c7 => ?_)
              · refine lv_iconst (v := zI 1) hx hb dX9_fallsUpTo_64 rfl ?_
                refine lv_istore_n (lv' := [(3, .int (zI 1)), (5, .int (zI v5_10)), (4, .int (zI v4_10)), (2, .int (zI v2_10)), (0, .ref (B + a)), (1, .int (zI t))]) hx hb dX9_fallsUpTo_65 rfl hl (by decide) rfl (fun ls hl => ?_)
                refine lv_iconst (v := zI 0) hx hb dX9_fallsUpTo_66 rfl ?_
                refine lv_istore (lv' := [(4, .int (zI 0)), (3, .int (zI 1)), (5, .int (zI v5_10)), (2, .int (zI v2_10)), (0, .ref (B + a)), (1, .int (zI t))]) hx hb dX9_fallsUpTo_67 hl (by decide) rfl (fun ls hl => ?_)
                refine z_iinc (v := (v5_10 + 1)) (lv' := [(5, .int (zI (v5_10 + 1))), (4, .int (zI 0)), (3, .int (zI 1)), (2, .int (zI v2_10)), (0, .ref (B + a)), (1, .int (zI t))]) hx hb dX9_fallsUpTo_69 hl (k := 2) rfl (by omega) (by decide) rfl (fun ls hl => ?_)
                refine lv_goto (tgt := 10) hx hb dX9_fallsUpTo_72 (by decide) ?_
                exact ih10 (v5_10 + 1) 0 1 v2_10 (by omega) (by omega) (by omega) (by omega)     (by omega) _ _ _ w (lv_sub hl [0, 1, 2, 3, 4, 5] rfl)
              · refine lv_iload hx hb dX9_fallsUpTo_56 (lv_at hl 1 rfl) ?_
                refine z_if_eq (tgt := 64) hx hb (by omega) dX9_fallsUpTo_58 (by decide) (fun c8 => ?_) (fun c8 => ?_)
                · refine lv_iconst (v := zI 1) hx hb dX9_fallsUpTo_64 rfl ?_
                  refine lv_istore_n (lv' := [(3, .int (zI 1)), (5, .int (zI v5_10)), (4, .int (zI v4_10)), (2, .int (zI v2_10)), (0, .ref (B + a)), (1, .int (zI t))]) hx hb dX9_fallsUpTo_65 rfl hl (by decide) rfl (fun ls hl => ?_)
                  refine lv_iconst (v := zI 0) hx hb dX9_fallsUpTo_66 rfl ?_
                  refine lv_istore (lv' := [(4, .int (zI 0)), (3, .int (zI 1)), (5, .int (zI v5_10)), (2, .int (zI v2_10)), (0, .ref (B + a)), (1, .int (zI t))]) hx hb dX9_fallsUpTo_67 hl (by decide) rfl (fun ls hl => ?_)
                  refine z_iinc (v := (v5_10 + 1)) (lv' := [(5, .int (zI (v5_10 + 1))), (4, .int (zI 0)), (3, .int (zI 1)), (2, .int (zI v2_10)), (0, .ref (B + a)), (1, .int (zI t))]) hx hb dX9_fallsUpTo_69 hl (k := 2) rfl (by omega) (by decide) rfl (fun ls hl => ?_)
                  refine lv_goto (tgt := 10) hx hb dX9_fallsUpTo_72 (by decide) ?_
                  exact ih10 (v5_10 + 1) 0 1 v2_10 (by omega) (by omega) (by omega) (by omega)     (by omega) _ _ _ w (lv_sub hl [0, 1, 2, 3, 4, 5] rfl)
                · obtain ⟨z9, bz9, x0z9, ez9⟩ := add_ex v2_10 1
                  refine lv_iinc (v := zI z9) (lv' := [(2, .int (zI z9)), (5, .int (zI v5_10)), (4, .int (zI v4_10)), (3, .int (zI v3_10)), (0, .ref (B + a)), (1, .int (zI t))]) hx hb dX9_fallsUpTo_61 hl (k := 3) rfl (by first | exact ez9 | (rw [← ez9]; rfl)) (by decide) rfl (fun ls hl => ?_)
                  refine lv_iconst (v := zI 1) hx hb dX9_fallsUpTo_64 rfl ?_
                  refine lv_istore_n (lv' := [(3, .int (zI 1)), (2, .int (zI z9)), (5, .int (zI v5_10)), (4, .int (zI v4_10)), (0, .ref (B + a)), (1, .int (zI t))]) hx hb dX9_fallsUpTo_65 rfl hl (by decide) rfl (fun ls hl => ?_)
                  refine lv_iconst (v := zI 0) hx hb dX9_fallsUpTo_66 rfl ?_
                  refine lv_istore (lv' := [(4, .int (zI 0)), (3, .int (zI 1)), (2, .int (zI z9)), (5, .int (zI v5_10)), (0, .ref (B + a)), (1, .int (zI t))]) hx hb dX9_fallsUpTo_67 hl (by decide) rfl (fun ls hl => ?_)
                  refine z_iinc (v := (v5_10 + 1)) (lv' := [(5, .int (zI (v5_10 + 1))), (4, .int (zI 0)), (3, .int (zI 1)), (2, .int (zI z9)), (0, .ref (B + a)), (1, .int (zI t))]) hx hb dX9_fallsUpTo_69 hl (k := 3) rfl (by omega) (by decide) rfl (fun ls hl => ?_)
                  refine lv_goto (tgt := 10) hx hb dX9_fallsUpTo_72 (by decide) ?_
                  exact ih10 (v5_10 + 1) 0 1 z9 (by omega) (by omega) (by omega) (by omega)     (by omega) _ _ _ w (lv_sub hl [0, 1, 2, 3, 4, 5] rfl)
          · refine lv_iconst (v := zI 1) hx hb dX9_fallsUpTo_35 rfl ?_
            refine lv_istore (lv' := [(4, .int (zI 1)), (5, .int (zI v5_10)), (3, .int (zI v3_10)), (2, .int (zI v2_10)), (0, .ref (B + a)), (1, .int (zI t))]) hx hb dX9_fallsUpTo_36 hl (by decide) rfl (fun ls hl => ?_)
            refine lv_goto (tgt := 69) hx hb dX9_fallsUpTo_38 (by decide) ?_
            refine z_iinc (v := (v5_10 + 1)) (lv' := [(5, .int (zI (v5_10 + 1))), (4, .int (zI 1)), (3, .int (zI v3_10)), (2, .int (zI v2_10)), (0, .ref (B + a)), (1, .int (zI t))]) hx hb dX9_fallsUpTo_69 hl (k := 1) rfl (by omega) (by decide) rfl (fun ls hl => ?_)
            refine lv_goto (tgt := 10) hx hb dX9_fallsUpTo_72 (by decide) ?_
            exact ih10 (v5_10 + 1) 1 v3_10 v2_10 (by omega) (by omega) (by omega) (by omega)     (by omega) _ _ _ w (lv_sub hl [0, 1, 2, 3, 4, 5] rfl)
  exact lp10 _ 0 0 0 0 (by omega) (by omega) (by omega) (by omega) (Nat.lt_succ_self _) _ _ _ w (lv_sub hl [0, 1, 2, 3, 4, 5] rfl)
theorem dX9_readOf_0 : decode cX9_readOf 0 = .ok (.iconst 0, 1) := dq0 kk_3 (by decide +kernel)
theorem dX9_readOf_1 : decode cX9_readOf 1 = .ok (.istore_n 2, 1) := dq0 kk_61 (by decide +kernel)
theorem dX9_readOf_2 : decode cX9_readOf 2 = .ok (.aload_n 0, 1) := dq0 kk_42 (by decide +kernel)
theorem dX9_readOf_3 : decode cX9_readOf 3 = .ok (.getfield 9, 3) := dqV kk_180 (by decide +kernel)
theorem dX9_readOf_6 : decode cX9_readOf 6 = .ok (.iconst 1, 1) := dq0 kk_4 (by decide +kernel)
theorem dX9_readOf_7 : decode cX9_readOf 7 = .ok (.isub, 1) := dq0 kk_100 (by decide +kernel)
theorem dX9_readOf_8 : decode cX9_readOf 8 = .ok (.istore_n 3, 1) := dq0 kk_62 (by decide +kernel)
theorem dX9_readOf_9 : decode cX9_readOf 9 = .ok (.iload_n 3, 1) := dq0 kk_29 (by decide +kernel)
theorem dX9_readOf_10 : decode cX9_readOf 10 = .ok (.ifCond .lt 35, 3) := dqT kk_155 (by decide +kernel)
theorem dX9_readOf_45 : decode cX9_readOf 45 = .ok (.iload_n 2, 1) := dq0 kk_28 (by decide +kernel)
theorem dX9_readOf_46 : decode cX9_readOf 46 = .ok (.ireturn, 1) := dq0 kk_172 (by decide +kernel)
theorem dX9_readOf_13 : decode cX9_readOf 13 = .ok (.aload_n 0, 1) := dq0 kk_42 (by decide +kernel)
theorem dX9_readOf_14 : decode cX9_readOf 14 = .ok (.getfield 28, 3) := dqV kk_180 (by decide +kernel)
theorem dX9_readOf_17 : decode cX9_readOf 17 = .ok (.iload_n 3, 1) := dq0 kk_29 (by decide +kernel)
theorem dX9_readOf_18 : decode cX9_readOf 18 = .ok (.iaload, 1) := dq0 kk_46 (by decide +kernel)
theorem dX9_readOf_19 : decode cX9_readOf 19 = .ok (.iload_n 1, 1) := dq0 kk_27 (by decide +kernel)
theorem dX9_readOf_20 : decode cX9_readOf 20 = .ok (.ishr, 1) := dq0 kk_122 (by decide +kernel)
theorem dX9_readOf_21 : decode cX9_readOf 21 = .ok (.iconst 1, 1) := dq0 kk_4 (by decide +kernel)
theorem dX9_readOf_22 : decode cX9_readOf 22 = .ok (.iand, 1) := dq0 kk_126 (by decide +kernel)
theorem dX9_readOf_23 : decode cX9_readOf 23 = .ok (.ifCond .eq 16, 3) := dqT kk_153 (by decide +kernel)
theorem dX9_readOf_39 : decode cX9_readOf 39 = .ok (.iinc 3 (-1), 3) := dqI kk_132 (by decide +kernel)
theorem dX9_readOf_42 : decode cX9_readOf 42 = .ok (.goto (-33), 3) := dqT kk_167 (by decide +kernel)
theorem dX9_readOf_26 : decode cX9_readOf 26 = .ok (.iload_n 2, 1) := dq0 kk_28 (by decide +kernel)
theorem dX9_readOf_27 : decode cX9_readOf 27 = .ok (.iconst 4, 1) := dq0 kk_7 (by decide +kernel)
theorem dX9_readOf_28 : decode cX9_readOf 28 = .ok (.imul, 1) := dq0 kk_104 (by decide +kernel)
theorem dX9_readOf_29 : decode cX9_readOf 29 = .ok (.aload_n 0, 1) := dq0 kk_42 (by decide +kernel)
theorem dX9_readOf_30 : decode cX9_readOf 30 = .ok (.getfield 24, 3) := dqV kk_180 (by decide +kernel)
theorem dX9_readOf_33 : decode cX9_readOf 33 = .ok (.iload_n 3, 1) := dq0 kk_29 (by decide +kernel)
theorem dX9_readOf_34 : decode cX9_readOf 34 = .ok (.iaload, 1) := dq0 kk_46 (by decide +kernel)
theorem dX9_readOf_35 : decode cX9_readOf 35 = .ok (.iadd, 1) := dq0 kk_96 (by decide +kernel)
theorem dX9_readOf_36 : decode cX9_readOf 36 = .ok (.iconst 1, 1) := dq0 kk_4 (by decide +kernel)
theorem dX9_readOf_37 : decode cX9_readOf 37 = .ok (.iadd, 1) := dq0 kk_96 (by decide +kernel)
theorem dX9_readOf_38 : decode cX9_readOf 38 = .ok (.istore_n 2, 1) := dq0 kk_61 (by decide +kernel)
set_option maxRecDepth 4000 in
theorem q_X9_readOf {l : Launch} {D : va_G} {B : Nat} {cy : Nat → ClassId} {M : Mem} {a : Nat} (hka : kd a = (9, 0, 0)) {y : Int} (hy : 0 ≤ y ∧ y ≤ 11) (hI : Inv M) : Ci l D B cy yX9_readOf cX9_readOf 4 (some .int) 0 0 [.ref (B + a), .int (zI y)] M (fun r M1 => ∃ z : Int, r = zI z ∧ ((-2147483648) ≤ z ∧ z ≤ 2147483647) ∧ M1 = M) := by
  refine s_anyQ (by decide) (Nat.le_of_ble_eq_true rfl) ?_
  intro p e s m args below meth c ls Q F hr hlocks hQ w hl
  have F : CallFix p m c cX9_readOf 4 s args TB RX9 := F
  have hx := F.1
  have hb := F.2.1
  have hl : lv_has ls 4 [(0, .ref (B + a)), (1, .int (zI y))] := hl
  refine lv_iconst (v := zI 0) hx hb dX9_readOf_0 rfl ?_
  refine lv_istore_n (lv' := [(2, .int (zI 0)), (0, .ref (B + a)), (1, .int (zI y))]) hx hb dX9_readOf_1 rfl hl (by decide) rfl (fun ls hl => ?_)
  refine lv_aload_n hx hb dX9_readOf_2 rfl (lv_at hl 1 rfl) ?_
  refine f_9_0 F w (a := a) hka tb_0 dX9_readOf_3 ?_
  obtain ⟨z1, bz1, ez1⟩ := Inv.ld (k := 0) hI (iv_w0 hka) (by have := lt_w hka; omega)
  refine r_val ez1 ?_
  refine lv_iconst (v := zI 1) hx hb dX9_readOf_6 rfl ?_
  refine z_isub (z := (z1 - 1)) hx hb dX9_readOf_7 (by omega) ?_
  refine lv_istore_n (lv' := [(3, .int (zI (z1 - 1))), (2, .int (zI 0)), (0, .ref (B + a)), (1, .int (zI y))]) hx hb dX9_readOf_8 rfl hl (by decide) rfl (fun ls hl => ?_)
  have lp9 : ∀ (f : Nat) (v3_9 : Int) (v2_9 : Int), ((-1) ≤ v3_9 ∧ v3_9 ≤ 11) → ((-2147483648) ≤ v2_9 ∧ v2_9 ≤ 2147483647) → (Int.toNat (v3_9 - (-1)) < f) → ∀ (H : Heap) (locs : List Loc) (ls : Array Slot), Wd D B cy s s.heap M H locs → lv_has ls 4 [(3, .int (zI v3_9)), (2, .int (zI v2_9)), (0, .ref (B + a)), (1, .int (zI y))] → W p l e (rmm 0 0) s m args below meth c H locs 0 0 Q (F0 m 9 ls []) := by
    intro f
    induction f with
    | zero => intros; omega
    | succ f ih9 =>
      intro v3_9 v2_9  iv3_9 iv2_9 hf9 H locs ls w hl
      refine lv_iload_n hx hb dX9_readOf_9 rfl (lv_at hl 0 rfl) ?_
      refine z_if_lt (tgt := 45) hx hb (by omega) dX9_readOf_10 (by decide) (fun c2 => ?_) (fun c2 => ?_)
      · refine lv_iload_n hx hb dX9_readOf_45 rfl (lv_at hl 1 rfl) ?_
        rw [hQ]
        exact e_i F w hr hlocks ⟨_, rfl, (by omega), rfl⟩ dX9_readOf_46
      · refine lv_aload_n hx hb dX9_readOf_13 rfl (lv_at hl 2 rfl) ?_
        refine f_9_5 F w (a := a) hka tb_6 dX9_readOf_14 ?_
        refine lv_iload_n hx hb dX9_readOf_17 rfl (lv_at hl 0 rfl) ?_
        refine g_iald F w (a := (a + 2)) (kd_w2 hka) (j := (Int.toNat v3_9)) (ix_z (by omega) (by omega)) (by omega) dX9_readOf_18 ?_
        obtain ⟨z3, bz3, ez3⟩ := Inv.ld (k := (Int.toNat v3_9)) hI (iv_wl hka _) (by have := lt_w hka; omega)
        refine r_val ez3 ?_
        refine lv_iload_n hx hb dX9_readOf_19 rfl (lv_at hl 3 rfl) ?_
        obtain ⟨z4, bz4, x0z4, ez4⟩ := shr_ex z3 y (by omega)
        refine lv_ishr hx hb dX9_readOf_20 ?_
        refine r_val ez4 ?_
        refine lv_iconst (v := zI 1) hx hb dX9_readOf_21 rfl ?_
        obtain ⟨z5, bz5, x0z5, x1z5, ez5⟩ := and_ex z4 1 (by omega) (by omega)
        refine lv_iand hx hb dX9_readOf_22 ?_
        refine r_val ez5 ?_
        refine z_if_eq (tgt := 39) hx hb (by omega) dX9_readOf_23 (by decide) (fun c6 => ?_) (fun c6 => ?_)
        · refine z_iinc (v := (v3_9 - 1)) (lv' := [(3, .int (zI (v3_9 - 1))), (2, .int (zI v2_9)), (0, .ref (B + a)), (1, .int (zI y))]) hx hb dX9_readOf_39 hl (k := 0) rfl (by omega) (by decide) rfl (fun ls hl => ?_)
          refine lv_goto (tgt := 9) hx hb dX9_readOf_42 (by decide) ?_
          exact ih9 (v3_9 - 1) v2_9 (by omega) (by omega)     (by omega) _ _ _ w (lv_sub hl [0, 1, 2, 3] rfl)
        · refine lv_iload_n hx hb dX9_readOf_26 rfl (lv_at hl 1 rfl) ?_
          refine lv_iconst (v := zI 4) hx hb dX9_readOf_27 rfl ?_
          refine lv_imul hx hb dX9_readOf_28 ?_
          refine lv_topi (fun u7 eu7 => ?_)
          obtain ⟨z8, bz8, rfl⟩ := rg_ex u7
          refine lv_aload_n hx hb dX9_readOf_29 rfl (lv_at hl 2 rfl) ?_
          refine f_9_4 F w (a := a) hka tb_7 dX9_readOf_30 ?_
          refine lv_iload_n hx hb dX9_readOf_33 rfl (lv_at hl 0 rfl) ?_
          refine g_iald F w (a := (a + 1)) (kd_w1 hka) (j := (Int.toNat v3_9)) (ix_z (by omega) (by omega)) (by omega) dX9_readOf_34 ?_
          obtain ⟨z9, bz9, ez9⟩ := Inv.ld (k := (Int.toNat v3_9)) hI (iv_wk hka _) (by have := lt_w hka; omega)
          refine r_val ez9 ?_
          obtain ⟨z10, bz10, x0z10, ez10⟩ := add_ex z8 z9
          refine lv_iadd hx hb dX9_readOf_35 ?_
          refine r_val ez10 ?_
          refine lv_iconst (v := zI 1) hx hb dX9_readOf_36 rfl ?_
          obtain ⟨z11, bz11, x0z11, ez11⟩ := add_ex z10 1
          refine lv_iadd hx hb dX9_readOf_37 ?_
          refine r_val ez11 ?_
          refine lv_istore_n (lv' := [(2, .int (zI z11)), (3, .int (zI v3_9)), (0, .ref (B + a)), (1, .int (zI y))]) hx hb dX9_readOf_38 rfl hl (by decide) rfl (fun ls hl => ?_)
          refine z_iinc (v := (v3_9 - 1)) (lv' := [(3, .int (zI (v3_9 - 1))), (2, .int (zI z11)), (0, .ref (B + a)), (1, .int (zI y))]) hx hb dX9_readOf_39 hl (k := 1) rfl (by omega) (by decide) rfl (fun ls hl => ?_)
          refine lv_goto (tgt := 9) hx hb dX9_readOf_42 (by decide) ?_
          exact ih9 (v3_9 - 1) z11 (by omega) (by omega)     (by omega) _ _ _ w (lv_sub hl [0, 1, 2, 3] rfl)
  exact lp9 _ (z1 - 1) 0 (by omega) (by omega) (Nat.lt_succ_self _) _ _ _ w (lv_sub hl [0, 1, 2, 3] rfl)
theorem dX9_kindsRead_0 : decode cX9_kindsRead 0 = .ok (.lconst 0, 1) := dq0 kk_9 (by decide +kernel)
theorem dX9_kindsRead_1 : decode cX9_kindsRead 1 = .ok (.lstore_n 1, 1) := dq0 kk_64 (by decide +kernel)
theorem dX9_kindsRead_2 : decode cX9_kindsRead 2 = .ok (.iconst 0, 1) := dq0 kk_3 (by decide +kernel)
theorem dX9_kindsRead_3 : decode cX9_kindsRead 3 = .ok (.istore_n 3, 1) := dq0 kk_62 (by decide +kernel)
theorem dX9_kindsRead_4 : decode cX9_kindsRead 4 = .ok (.iload_n 3, 1) := dq0 kk_29 (by decide +kernel)
theorem dX9_kindsRead_5 : decode cX9_kindsRead 5 = .ok (.aload_n 0, 1) := dq0 kk_42 (by decide +kernel)
theorem dX9_kindsRead_6 : decode cX9_kindsRead 6 = .ok (.getfield 9, 3) := dqV kk_180 (by decide +kernel)
theorem dX9_kindsRead_9 : decode cX9_kindsRead 9 = .ok (.if_icmp .ge 50, 3) := dqT kk_162 (by decide +kernel)
theorem dX9_kindsRead_59 : decode cX9_kindsRead 59 = .ok (.lload_n 1, 1) := dq0 kk_31 (by decide +kernel)
theorem dX9_kindsRead_60 : decode cX9_kindsRead 60 = .ok (.lreturn, 1) := dq0 kk_173 (by decide +kernel)
theorem dX9_kindsRead_12 : decode cX9_kindsRead 12 = .ok (.aload_n 0, 1) := dq0 kk_42 (by decide +kernel)
theorem dX9_kindsRead_13 : decode cX9_kindsRead 13 = .ok (.getfield 28, 3) := dqV kk_180 (by decide +kernel)
theorem dX9_kindsRead_16 : decode cX9_kindsRead 16 = .ok (.iload_n 3, 1) := dq0 kk_29 (by decide +kernel)
theorem dX9_kindsRead_17 : decode cX9_kindsRead 17 = .ok (.iaload, 1) := dq0 kk_46 (by decide +kernel)
theorem dX9_kindsRead_18 : decode cX9_kindsRead 18 = .ok (.istore 4, 2) := dqU kk_54 (by decide +kernel)
theorem dX9_kindsRead_20 : decode cX9_kindsRead 20 = .ok (.iload 4, 2) := dqU kk_21 (by decide +kernel)
theorem dX9_kindsRead_22 : decode cX9_kindsRead 22 = .ok (.ifCond .eq 31, 3) := dqT kk_153 (by decide +kernel)
theorem dX9_kindsRead_53 : decode cX9_kindsRead 53 = .ok (.iinc 3 1, 3) := dqI kk_132 (by decide +kernel)
theorem dX9_kindsRead_56 : decode cX9_kindsRead 56 = .ok (.goto (-52), 3) := dqT kk_167 (by decide +kernel)
theorem dX9_kindsRead_25 : decode cX9_kindsRead 25 = .ok (.lload_n 1, 1) := dq0 kk_31 (by decide +kernel)
theorem dX9_kindsRead_26 : decode cX9_kindsRead 26 = .ok (.ldc2_w 78, 3) := dqV kk_20 (by decide +kernel)
theorem tb_104 : Cond.constantLong "ToneLines$Word" 78 4 ∈ TB := tbm (tc4 (List.mem_of_getElem? (i := 227) rfl)) rfl
theorem dX9_kindsRead_29 : decode cX9_kindsRead 29 = .ok (.lmul, 1) := dq0 kk_105 (by decide +kernel)
theorem dX9_kindsRead_30 : decode cX9_kindsRead 30 = .ok (.aload_n 0, 1) := dq0 kk_42 (by decide +kernel)
theorem dX9_kindsRead_31 : decode cX9_kindsRead 31 = .ok (.getfield 24, 3) := dqV kk_180 (by decide +kernel)
theorem dX9_kindsRead_34 : decode cX9_kindsRead 34 = .ok (.iload_n 3, 1) := dq0 kk_29 (by decide +kernel)
theorem dX9_kindsRead_35 : decode cX9_kindsRead 35 = .ok (.iaload, 1) := dq0 kk_46 (by decide +kernel)
theorem dX9_kindsRead_36 : decode cX9_kindsRead 36 = .ok (.i2l, 1) := dq0 kk_133 (by decide +kernel)
theorem dX9_kindsRead_37 : decode cX9_kindsRead 37 = .ok (.ladd, 1) := dq0 kk_97 (by decide +kernel)
theorem dX9_kindsRead_38 : decode cX9_kindsRead 38 = .ok (.lconst 1, 1) := dq0 kk_10 (by decide +kernel)
theorem dX9_kindsRead_39 : decode cX9_kindsRead 39 = .ok (.ladd, 1) := dq0 kk_97 (by decide +kernel)
theorem dX9_kindsRead_40 : decode cX9_kindsRead 40 = .ok (.lstore_n 1, 1) := dq0 kk_64 (by decide +kernel)
theorem dX9_kindsRead_41 : decode cX9_kindsRead 41 = .ok (.iload 4, 2) := dqU kk_21 (by decide +kernel)
theorem dX9_kindsRead_43 : decode cX9_kindsRead 43 = .ok (.iload 4, 2) := dqU kk_21 (by decide +kernel)
theorem dX9_kindsRead_45 : decode cX9_kindsRead 45 = .ok (.iconst 1, 1) := dq0 kk_4 (by decide +kernel)
theorem dX9_kindsRead_46 : decode cX9_kindsRead 46 = .ok (.isub, 1) := dq0 kk_100 (by decide +kernel)
theorem dX9_kindsRead_47 : decode cX9_kindsRead 47 = .ok (.iand, 1) := dq0 kk_126 (by decide +kernel)
theorem dX9_kindsRead_48 : decode cX9_kindsRead 48 = .ok (.istore 4, 2) := dqU kk_54 (by decide +kernel)
theorem dX9_kindsRead_50 : decode cX9_kindsRead 50 = .ok (.goto (-30), 3) := dqT kk_167 (by decide +kernel)
set_option maxRecDepth 4000 in
theorem q_X9_kindsRead {l : Launch} {D : va_G} {B : Nat} {cy : Nat → ClassId} {M : Mem} {a : Nat} (hka : kd a = (9, 0, 0)) (hI : Inv M) : Cl l D B cy yX9_kindsRead cX9_kindsRead 5 0 0 [.ref (B + a)] M (fun r M1 => M1 = M) := by
  refine s_anyQ (by decide) (Nat.le_of_ble_eq_true rfl) ?_
  intro p e s m args below meth c ls Q F hr hlocks hQ w hl
  have F : CallFix p m c cX9_kindsRead 5 s args TB RX9 := F
  have hx := F.1
  have hb := F.2.1
  have hl : lv_has ls 5 [(0, .ref (B + a))] := hl
  refine lv_lconst (v := 0) hx hb dX9_kindsRead_0 (by decide) ?_
  refine lv_lstore_n (lv' := [(1, .long 0), (0, .ref (B + a))]) hx hb dX9_kindsRead_1 rfl hl (by decide) rfl (fun ls hl => ?_)
  refine lv_iconst (v := zI 0) hx hb dX9_kindsRead_2 rfl ?_
  refine lv_istore_n (lv' := [(3, .int (zI 0)), (1, .long 0), (0, .ref (B + a))]) hx hb dX9_kindsRead_3 rfl hl (by decide) rfl (fun ls hl => ?_)
  have lp4 : ∀ (f : Nat) (v3_4 : Int) (v1_4 : Int64), (0 ≤ v3_4 ∧ v3_4 ≤ 12) → (Int.toNat (12 - v3_4) < f) → ∀ (H : Heap) (locs : List Loc) (ls : Array Slot), Wd D B cy s s.heap M H locs → lv_has ls 5 [(3, .int (zI v3_4)), (1, .long v1_4), (0, .ref (B + a))] → W p l e (rmm 0 0) s m args below meth c H locs 0 0 Q (F0 m 4 ls []) := by
    intro f
    induction f with
    | zero => intros; omega
    | succ f ih4 =>
      intro v3_4 v1_4  iv3_4 hf4 H locs ls w hl
      refine lv_iload_n hx hb dX9_kindsRead_4 rfl (lv_at hl 0 rfl) ?_
      refine lv_aload_n hx hb dX9_kindsRead_5 rfl (lv_at hl 2 rfl) ?_
      refine f_9_0 F w (a := a) hka tb_0 dX9_kindsRead_6 ?_
      obtain ⟨z1, bz1, ez1⟩ := Inv.ld (k := 0) hI (iv_w0 hka) (by have := lt_w hka; omega)
      refine r_val ez1 ?_
      refine z_icmp_ge (tgt := 59) hx hb (by omega) (by omega) dX9_kindsRead_9 (by decide) (fun c2 => ?_) (fun c2 => ?_)
      · refine lv_lload_n hx hb dX9_kindsRead_59 rfl (lv_at hl 1 rfl) ?_
        rw [hQ]
        exact e_l F w hr hlocks rfl dX9_kindsRead_60
      · refine lv_aload_n hx hb dX9_kindsRead_12 rfl (lv_at hl 2 rfl) ?_
        refine f_9_5 F w (a := a) hka tb_6 dX9_kindsRead_13 ?_
        refine lv_iload_n hx hb dX9_kindsRead_16 rfl (lv_at hl 0 rfl) ?_
        refine g_iald F w (a := (a + 2)) (kd_w2 hka) (j := (Int.toNat v3_4)) (ix_z (by omega) (by omega)) (by omega) dX9_kindsRead_17 ?_
        obtain ⟨z3, bz3, ez3⟩ := Inv.ld (k := (Int.toNat v3_4)) hI (iv_wl hka _) (by have := lt_w hka; omega)
        refine r_val ez3 ?_
        refine lv_istore (lv' := [(4, .int (zI z3)), (3, .int (zI v3_4)), (1, .long v1_4), (0, .ref (B + a))]) hx hb dX9_kindsRead_18 hl (by decide) rfl (fun ls hl => ?_)
        have lp20 : ∀ (f : Nat) (v4_20 : Int) (v1_20 : Int64), (0 ≤ v4_20 ∧ v4_20 ≤ 4095) → (Int.toNat (v4_20 - 0) < f) → ∀ (H : Heap) (locs : List Loc) (ls : Array Slot), Wd D B cy s s.heap M H locs → lv_has ls 5 [(4, .int (zI v4_20)), (3, .int (zI v3_4)), (1, .long v1_20), (0, .ref (B + a))] → W p l e (rmm 0 0) s m args below meth c H locs 0 0 Q (F0 m 20 ls []) := by
          intro f
          induction f with
          | zero => intros; omega
          | succ f ih20 =>
            intro v4_20 v1_20  iv4_20 hf20 H locs ls w hl
            refine lv_iload hx hb dX9_kindsRead_20 (lv_at hl 0 rfl) ?_
            refine z_if_eq (tgt := 53) hx hb (by omega) dX9_kindsRead_22 (by decide) (fun c4 => ?_) (fun c4 => ?_)
            · refine z_iinc (v := (v3_4 + 1)) (lv' := [(3, .int (zI (v3_4 + 1))), (4, .int (zI v4_20)), (1, .long v1_20), (0, .ref (B + a))]) hx hb dX9_kindsRead_53 hl (k := 1) rfl (by omega) (by decide) rfl (fun ls hl => ?_)
              refine lv_goto (tgt := 4) hx hb dX9_kindsRead_56 (by decide) ?_
              exact ih4 (v3_4 + 1) v1_20 (by omega)     (by omega) _ _ _ w (lv_sub hl [0, 2, 3] rfl)
            · refine lv_lload_n hx hb dX9_kindsRead_25 rfl (lv_at hl 2 rfl) ?_
              refine lv_ldc2 hx hb F.2.2.2.1 (F.2.2.2.2 _ tb_104) dX9_kindsRead_26 ?_
              refine lv_topl (fun u5 eu5 => ?_)
              refine lv_lmul hx hb dX9_kindsRead_29 ?_
              refine lv_topl (fun u6 eu6 => ?_)
              refine lv_aload_n hx hb dX9_kindsRead_30 rfl (lv_at hl 3 rfl) ?_
              refine f_9_4 F w (a := a) hka tb_7 dX9_kindsRead_31 ?_
              refine lv_iload_n hx hb dX9_kindsRead_34 rfl (lv_at hl 1 rfl) ?_
              refine g_iald F w (a := (a + 1)) (kd_w1 hka) (j := (Int.toNat v3_4)) (ix_z (by omega) (by omega)) (by omega) dX9_kindsRead_35 ?_
              obtain ⟨z7, bz7, ez7⟩ := Inv.ld (k := (Int.toNat v3_4)) hI (iv_wk hka _) (by have := lt_w hka; omega)
              refine r_val ez7 ?_
              refine lv_i2l hx hb dX9_kindsRead_36 rfl ?_
              refine lv_topl (fun u8 eu8 => ?_)
              refine lv_ladd hx hb dX9_kindsRead_37 ?_
              refine lv_topl (fun u9 eu9 => ?_)
              refine lv_lconst (v := 1) hx hb dX9_kindsRead_38 (by decide) ?_
              refine lv_ladd hx hb dX9_kindsRead_39 ?_
              refine lv_topl (fun u10 eu10 => ?_)
              refine lv_lstore_n (lv' := [(1, .long u10), (4, .int (zI v4_20)), (3, .int (zI v3_4)), (0, .ref (B + a))]) hx hb dX9_kindsRead_40 rfl hl (by decide) rfl (fun ls hl => ?_)
              refine lv_iload hx hb dX9_kindsRead_41 (lv_at hl 1 rfl) ?_
              refine lv_iload hx hb dX9_kindsRead_43 (lv_at hl 1 rfl) ?_
              refine lv_iconst (v := zI 1) hx hb dX9_kindsRead_45 rfl ?_
              refine z_isub (z := (v4_20 - 1)) hx hb dX9_kindsRead_46 (by omega) ?_
              obtain ⟨z11, bz11, x0z11, x1z11, ez11⟩ := and_ex v4_20 (v4_20 - 1) (by omega) (by omega)
              refine lv_iand hx hb dX9_kindsRead_47 ?_
              refine r_val ez11 ?_
              refine lv_istore (lv' := [(4, .int (zI z11)), (1, .long u10), (3, .int (zI v3_4)), (0, .ref (B + a))]) hx hb dX9_kindsRead_48 hl (by decide) rfl (fun ls hl => ?_)
              refine lv_goto (tgt := 20) hx hb dX9_kindsRead_50 (by decide) ?_
              exact ih20 z11 u10 (by omega)     (by omega) _ _ _ w (lv_sub hl [0, 2, 1, 3] rfl)
        exact lp20 _ z3 v1_4 (by omega) (Nat.lt_succ_self _) _ _ _ w (lv_sub hl [0, 1, 2, 3] rfl)
  exact lp4 _ 0 0 (by omega) (Nat.lt_succ_self _) _ _ _ w (lv_sub hl [0, 1, 2] rfl)
theorem dX9_linesRead_0 : decode cX9_linesRead 0 = .ok (.lconst 0, 1) := dq0 kk_9 (by decide +kernel)
theorem dX9_linesRead_1 : decode cX9_linesRead 1 = .ok (.lstore_n 1, 1) := dq0 kk_64 (by decide +kernel)
theorem dX9_linesRead_2 : decode cX9_linesRead 2 = .ok (.iconst 0, 1) := dq0 kk_3 (by decide +kernel)
theorem dX9_linesRead_3 : decode cX9_linesRead 3 = .ok (.istore_n 3, 1) := dq0 kk_62 (by decide +kernel)
theorem dX9_linesRead_4 : decode cX9_linesRead 4 = .ok (.iload_n 3, 1) := dq0 kk_29 (by decide +kernel)
theorem dX9_linesRead_5 : decode cX9_linesRead 5 = .ok (.aload_n 0, 1) := dq0 kk_42 (by decide +kernel)
theorem dX9_linesRead_6 : decode cX9_linesRead 6 = .ok (.getfield 9, 3) := dqV kk_180 (by decide +kernel)
theorem dX9_linesRead_9 : decode cX9_linesRead 9 = .ok (.if_icmp .ge 46, 3) := dqT kk_162 (by decide +kernel)
theorem dX9_linesRead_55 : decode cX9_linesRead 55 = .ok (.lload_n 1, 1) := dq0 kk_31 (by decide +kernel)
theorem dX9_linesRead_56 : decode cX9_linesRead 56 = .ok (.lreturn, 1) := dq0 kk_173 (by decide +kernel)
theorem dX9_linesRead_12 : decode cX9_linesRead 12 = .ok (.aload_n 0, 1) := dq0 kk_42 (by decide +kernel)
theorem dX9_linesRead_13 : decode cX9_linesRead 13 = .ok (.getfield 28, 3) := dqV kk_180 (by decide +kernel)
theorem dX9_linesRead_16 : decode cX9_linesRead 16 = .ok (.iload_n 3, 1) := dq0 kk_29 (by decide +kernel)
theorem dX9_linesRead_17 : decode cX9_linesRead 17 = .ok (.iaload, 1) := dq0 kk_46 (by decide +kernel)
theorem dX9_linesRead_18 : decode cX9_linesRead 18 = .ok (.istore 4, 2) := dqU kk_54 (by decide +kernel)
theorem dX9_linesRead_20 : decode cX9_linesRead 20 = .ok (.iload 4, 2) := dqU kk_21 (by decide +kernel)
theorem dX9_linesRead_22 : decode cX9_linesRead 22 = .ok (.ifCond .eq 27, 3) := dqT kk_153 (by decide +kernel)
theorem dX9_linesRead_49 : decode cX9_linesRead 49 = .ok (.iinc 3 1, 3) := dqI kk_132 (by decide +kernel)
theorem dX9_linesRead_52 : decode cX9_linesRead 52 = .ok (.goto (-48), 3) := dqT kk_167 (by decide +kernel)
theorem dX9_linesRead_25 : decode cX9_linesRead 25 = .ok (.lload_n 1, 1) := dq0 kk_31 (by decide +kernel)
theorem dX9_linesRead_26 : decode cX9_linesRead 26 = .ok (.lconst 1, 1) := dq0 kk_10 (by decide +kernel)
theorem dX9_linesRead_27 : decode cX9_linesRead 27 = .ok (.iconst 4, 1) := dq0 kk_7 (by decide +kernel)
theorem dX9_linesRead_28 : decode cX9_linesRead 28 = .ok (.iload 4, 2) := dqU kk_21 (by decide +kernel)
theorem dX9_linesRead_30 : decode cX9_linesRead 30 = .ok (.invokestatic 75, 3) := dqV kk_184 (by decide +kernel)
theorem dX9_linesRead_33 : decode cX9_linesRead 33 = .ok (.imul, 1) := dq0 kk_104 (by decide +kernel)
theorem dX9_linesRead_34 : decode cX9_linesRead 34 = .ok (.lshl, 1) := dq0 kk_121 (by decide +kernel)
theorem dX9_linesRead_35 : decode cX9_linesRead 35 = .ok (.ladd, 1) := dq0 kk_97 (by decide +kernel)
theorem dX9_linesRead_36 : decode cX9_linesRead 36 = .ok (.lstore_n 1, 1) := dq0 kk_64 (by decide +kernel)
theorem dX9_linesRead_37 : decode cX9_linesRead 37 = .ok (.iload 4, 2) := dqU kk_21 (by decide +kernel)
theorem dX9_linesRead_39 : decode cX9_linesRead 39 = .ok (.iload 4, 2) := dqU kk_21 (by decide +kernel)
theorem dX9_linesRead_41 : decode cX9_linesRead 41 = .ok (.iconst 1, 1) := dq0 kk_4 (by decide +kernel)
theorem dX9_linesRead_42 : decode cX9_linesRead 42 = .ok (.isub, 1) := dq0 kk_100 (by decide +kernel)
theorem dX9_linesRead_43 : decode cX9_linesRead 43 = .ok (.iand, 1) := dq0 kk_126 (by decide +kernel)
theorem dX9_linesRead_44 : decode cX9_linesRead 44 = .ok (.istore 4, 2) := dqU kk_54 (by decide +kernel)
theorem dX9_linesRead_46 : decode cX9_linesRead 46 = .ok (.goto (-26), 3) := dqT kk_167 (by decide +kernel)
set_option maxRecDepth 4000 in
theorem q_X9_linesRead {l : Launch} {D : va_G} {B : Nat} {cy : Nat → ClassId} {M : Mem} {a : Nat} (hka : kd a = (9, 0, 0)) (hI : Inv M) : Cl l D B cy yX9_linesRead cX9_linesRead 5 2 40 [.ref (B + a)] M (fun r M1 => M1 = M) := by
  refine s_anyQ (by decide) (Nat.le_of_ble_eq_true rfl) ?_
  intro p e s m args below meth c ls Q F hr hlocks hQ w hl
  have F : CallFix p m c cX9_linesRead 5 s args TB RX9 := F
  have hx := F.1
  have hb := F.2.1
  have hl : lv_has ls 5 [(0, .ref (B + a))] := hl
  refine lv_lconst (v := 0) hx hb dX9_linesRead_0 (by decide) ?_
  refine lv_lstore_n (lv' := [(1, .long 0), (0, .ref (B + a))]) hx hb dX9_linesRead_1 rfl hl (by decide) rfl (fun ls hl => ?_)
  refine lv_iconst (v := zI 0) hx hb dX9_linesRead_2 rfl ?_
  refine lv_istore_n (lv' := [(3, .int (zI 0)), (1, .long 0), (0, .ref (B + a))]) hx hb dX9_linesRead_3 rfl hl (by decide) rfl (fun ls hl => ?_)
  have lp4 : ∀ (f : Nat) (v3_4 : Int) (v1_4 : Int64), (0 ≤ v3_4 ∧ v3_4 ≤ 12) → (Int.toNat (12 - v3_4) < f) → ∀ (H : Heap) (locs : List Loc) (ls : Array Slot), Wd D B cy s s.heap M H locs → lv_has ls 5 [(3, .int (zI v3_4)), (1, .long v1_4), (0, .ref (B + a))] → W p l e (rmm 2 40) s m args below meth c H locs 0 0 Q (F0 m 4 ls []) := by
    intro f
    induction f with
    | zero => intros; omega
    | succ f ih4 =>
      intro v3_4 v1_4  iv3_4 hf4 H locs ls w hl
      refine lv_iload_n hx hb dX9_linesRead_4 rfl (lv_at hl 0 rfl) ?_
      refine lv_aload_n hx hb dX9_linesRead_5 rfl (lv_at hl 2 rfl) ?_
      refine f_9_0 F w (a := a) hka tb_0 dX9_linesRead_6 ?_
      obtain ⟨z1, bz1, ez1⟩ := Inv.ld (k := 0) hI (iv_w0 hka) (by have := lt_w hka; omega)
      refine r_val ez1 ?_
      refine z_icmp_ge (tgt := 55) hx hb (by omega) (by omega) dX9_linesRead_9 (by decide) (fun c2 => ?_) (fun c2 => ?_)
      · refine lv_lload_n hx hb dX9_linesRead_55 rfl (lv_at hl 1 rfl) ?_
        rw [hQ]
        exact e_l F w hr hlocks rfl dX9_linesRead_56
      · refine lv_aload_n hx hb dX9_linesRead_12 rfl (lv_at hl 2 rfl) ?_
        refine f_9_5 F w (a := a) hka tb_6 dX9_linesRead_13 ?_
        refine lv_iload_n hx hb dX9_linesRead_16 rfl (lv_at hl 0 rfl) ?_
        refine g_iald F w (a := (a + 2)) (kd_w2 hka) (j := (Int.toNat v3_4)) (ix_z (by omega) (by omega)) (by omega) dX9_linesRead_17 ?_
        obtain ⟨z3, bz3, ez3⟩ := Inv.ld (k := (Int.toNat v3_4)) hI (iv_wl hka _) (by have := lt_w hka; omega)
        refine r_val ez3 ?_
        refine lv_istore (lv' := [(4, .int (zI z3)), (3, .int (zI v3_4)), (1, .long v1_4), (0, .ref (B + a))]) hx hb dX9_linesRead_18 hl (by decide) rfl (fun ls hl => ?_)
        have lp20 : ∀ (f : Nat) (v4_20 : Int) (v1_20 : Int64), (0 ≤ v4_20 ∧ v4_20 ≤ 4095) → (Int.toNat (v4_20 - 0) < f) → ∀ (H : Heap) (locs : List Loc) (ls : Array Slot), Wd D B cy s s.heap M H locs → lv_has ls 5 [(4, .int (zI v4_20)), (3, .int (zI v3_4)), (1, .long v1_20), (0, .ref (B + a))] → W p l e (rmm 2 40) s m args below meth c H locs 0 0 Q (F0 m 20 ls []) := by
          intro f
          induction f with
          | zero => intros; omega
          | succ f ih20 =>
            intro v4_20 v1_20  iv4_20 hf20 H locs ls w hl
            refine lv_iload hx hb dX9_linesRead_20 (lv_at hl 0 rfl) ?_
            refine z_if_eq (tgt := 49) hx hb (by omega) dX9_linesRead_22 (by decide) (fun c4 => ?_) (fun c4 => ?_)
            · refine z_iinc (v := (v3_4 + 1)) (lv' := [(3, .int (zI (v3_4 + 1))), (4, .int (zI v4_20)), (1, .long v1_20), (0, .ref (B + a))]) hx hb dX9_linesRead_49 hl (k := 1) rfl (by omega) (by decide) rfl (fun ls hl => ?_)
              refine lv_goto (tgt := 4) hx hb dX9_linesRead_52 (by decide) ?_
              exact ih4 (v3_4 + 1) v1_20 (by omega)     (by omega) _ _ _ w (lv_sub hl [0, 2, 3] rfl)
            · refine lv_lload_n hx hb dX9_linesRead_25 rfl (lv_at hl 2 rfl) ?_
              refine lv_lconst (v := 1) hx hb dX9_linesRead_26 (by decide) ?_
              refine lv_iconst (v := zI 4) hx hb dX9_linesRead_27 rfl ?_
              refine lv_iload hx hb dX9_linesRead_28 (lv_at hl 0 rfl) ?_
              refine k_Ni F w (As := [.int (zI v4_20)]) (rest := [.int (zI 4), .long 1, .long v1_20]) (q_lowest (x := v4_20) (by omega) ) gc_X11_lowest tb_95 tb_96 (by decide) hs_X11_lowest ⟨(Nat.le_of_ble_eq_true rfl), (Nat.le_of_ble_eq_true rfl)⟩ hl.1 rfl (Nat.le_of_ble_eq_true rfl) ⟨Nat.zero_le _, Nat.zero_le _⟩ dX9_linesRead_30 (fun r5 N6 H locs hp w => ?_)
              obtain ⟨hrz7, hMz7⟩ := hp
              rw [hMz7] at w
              obtain ⟨z7, bz7, xz7, ez7⟩ := low_ex v4_20 (by omega)
              refine r_val (hrz7.trans ez7) ?_
              refine z_imul (z := (4 * z7)) hx hb dX9_linesRead_33 (by omega) ?_
              refine lv_lshl hx hb dX9_linesRead_34 rfl ?_
              refine lv_topl (fun u8 eu8 => ?_)
              refine lv_ladd hx hb dX9_linesRead_35 ?_
              refine lv_topl (fun u9 eu9 => ?_)
              refine lv_lstore_n (lv' := [(1, .long u9), (4, .int (zI v4_20)), (3, .int (zI v3_4)), (0, .ref (B + a))]) hx hb dX9_linesRead_36 rfl hl (by decide) rfl (fun ls hl => ?_)
              refine lv_iload hx hb dX9_linesRead_37 (lv_at hl 1 rfl) ?_
              refine lv_iload hx hb dX9_linesRead_39 (lv_at hl 1 rfl) ?_
              refine lv_iconst (v := zI 1) hx hb dX9_linesRead_41 rfl ?_
              refine z_isub (z := (v4_20 - 1)) hx hb dX9_linesRead_42 (by omega) ?_
              obtain ⟨z10, bz10, x0z10, x1z10, ez10⟩ := and_ex v4_20 (v4_20 - 1) (by omega) (by omega)
              refine lv_iand hx hb dX9_linesRead_43 ?_
              refine r_val ez10 ?_
              refine lv_istore (lv' := [(4, .int (zI z10)), (1, .long u9), (3, .int (zI v3_4)), (0, .ref (B + a))]) hx hb dX9_linesRead_44 hl (by decide) rfl (fun ls hl => ?_)
              refine lv_goto (tgt := 20) hx hb dX9_linesRead_46 (by decide) ?_
              exact ih20 z10 u9 (by omega)     (by omega) _ _ _ w (lv_sub hl [0, 2, 1, 3] rfl)
        exact lp20 _ z3 v1_4 (by omega) (Nat.lt_succ_self _) _ _ _ w (lv_sub hl [0, 1, 2, 3] rfl)
  exact lp4 _ 0 0 (by omega) (Nat.lt_succ_self _) _ _ _ w (lv_sub hl [0, 1, 2] rfl)
theorem dX9_isReadAs_0 : decode cX9_isReadAs 0 = .ok (.aload_n 0, 1) := dq0 kk_42 (by decide +kernel)
theorem dX9_isReadAs_1 : decode cX9_isReadAs 1 = .ok (.invokevirtual 80, 3) := dqV kk_182 (by decide +kernel)
theorem tk_X9_kindsRead : Cond.code yX9_kindsRead cX9_kindsRead 5 (some .long) ∈ TB := tbm (tc4 (List.mem_of_getElem? (i := 226) rfl)) rfl
theorem gc_X9_kindsRead : GoodIn TB (cw yX9_kindsRead cX9_kindsRead 5 (some .long)) := goodIn_c2 tk_X9_kindsRead
theorem tb_105 : Cond.methodLink "ToneLines$Word" 80 yX9_kindsRead ∈ TB := tbm (tc4 (List.mem_of_getElem? (i := 223) rfl)) rfl
theorem tb_106 : Cond.instanceMethod yX9_kindsRead ∈ TB := tbm (tc4 (List.mem_of_getElem? (i := 224) rfl)) rfl
theorem tb_107 : Cond.selects "ToneLines$Word" yX9_kindsRead yX9_kindsRead ∈ TB := tbm (tc4 (List.mem_of_getElem? (i := 225) rfl)) rfl
theorem gv_X9_80 : GoodIn TB (wsV RX9 80 RX9 yX9_kindsRead (cw yX9_kindsRead cX9_kindsRead 5 (some .long))) := goodIn_4 tb_105 tb_106 tb_107 tb_5 gc_X9_kindsRead
theorem hv_X9_kindsRead : yX9_kindsRead.cls = RX9 ∧ yX9_kindsRead.cls ≠ "java/lang/invoke/MethodHandle" ∧ yX9_kindsRead.cls ≠ "java/lang/invoke/VarHandle" ∧ (parseMethodDescriptor yX9_kindsRead.desc).map (fun d => d.parameters.length) = some 0 := by decide +kernel
theorem dX9_isReadAs_4 : decode cX9_isReadAs 4 = .ok (.aload_n 1, 1) := dq0 kk_43 (by decide +kernel)
theorem dX9_isReadAs_5 : decode cX9_isReadAs 5 = .ok (.invokevirtual 80, 3) := dqV kk_182 (by decide +kernel)
theorem dX9_isReadAs_8 : decode cX9_isReadAs 8 = .ok (.lcmp, 1) := dq0 kk_148 (by decide +kernel)
theorem dX9_isReadAs_9 : decode cX9_isReadAs 9 = .ok (.ifCond .ne 19, 3) := dqT kk_154 (by decide +kernel)
theorem dX9_isReadAs_28 : decode cX9_isReadAs 28 = .ok (.iconst 0, 1) := dq0 kk_3 (by decide +kernel)
theorem dX9_isReadAs_29 : decode cX9_isReadAs 29 = .ok (.ireturn, 1) := dq0 kk_172 (by decide +kernel)
theorem dX9_isReadAs_12 : decode cX9_isReadAs 12 = .ok (.aload_n 0, 1) := dq0 kk_42 (by decide +kernel)
theorem dX9_isReadAs_13 : decode cX9_isReadAs 13 = .ok (.invokevirtual 84, 3) := dqV kk_182 (by decide +kernel)
theorem tk_X9_linesRead : Cond.code yX9_linesRead cX9_linesRead 5 (some .long) ∈ TB := tbm (tc4 (List.mem_of_getElem? (i := 231) rfl)) rfl
theorem gc_X9_linesRead : GoodIn TB (cw yX9_linesRead cX9_linesRead 5 (some .long)) := goodIn_c2 tk_X9_linesRead
theorem tb_108 : Cond.methodLink "ToneLines$Word" 84 yX9_linesRead ∈ TB := tbm (tc4 (List.mem_of_getElem? (i := 228) rfl)) rfl
theorem tb_109 : Cond.instanceMethod yX9_linesRead ∈ TB := tbm (tc4 (List.mem_of_getElem? (i := 229) rfl)) rfl
theorem tb_110 : Cond.selects "ToneLines$Word" yX9_linesRead yX9_linesRead ∈ TB := tbm (tc4 (List.mem_of_getElem? (i := 230) rfl)) rfl
theorem gv_X9_84 : GoodIn TB (wsV RX9 84 RX9 yX9_linesRead (cw yX9_linesRead cX9_linesRead 5 (some .long))) := goodIn_4 tb_108 tb_109 tb_110 tb_5 gc_X9_linesRead
theorem hv_X9_linesRead : yX9_linesRead.cls = RX9 ∧ yX9_linesRead.cls ≠ "java/lang/invoke/MethodHandle" ∧ yX9_linesRead.cls ≠ "java/lang/invoke/VarHandle" ∧ (parseMethodDescriptor yX9_linesRead.desc).map (fun d => d.parameters.length) = some 0 := by decide +kernel
theorem dX9_isReadAs_16 : decode cX9_isReadAs 16 = .ok (.aload_n 1, 1) := dq0 kk_43 (by decide +kernel)
theorem dX9_isReadAs_17 : decode cX9_isReadAs 17 = .ok (.invokevirtual 84, 3) := dqV kk_182 (by decide +kernel)
theorem dX9_isReadAs_20 : decode cX9_isReadAs 20 = .ok (.lcmp, 1) := dq0 kk_148 (by decide +kernel)
theorem dX9_isReadAs_21 : decode cX9_isReadAs 21 = .ok (.ifCond .ne 7, 3) := dqT kk_154 (by decide +kernel)
theorem dX9_isReadAs_24 : decode cX9_isReadAs 24 = .ok (.iconst 1, 1) := dq0 kk_4 (by decide +kernel)
theorem dX9_isReadAs_25 : decode cX9_isReadAs 25 = .ok (.goto 4, 3) := dqT kk_167 (by decide +kernel)
set_option maxRecDepth 4000 in
theorem q_X9_isReadAs {l : Launch} {D : va_G} {B : Nat} {cy : Nat → ClassId} {M : Mem} {a : Nat} (hka : kd a = (9, 0, 0)) {d : Nat} (hkd : kd d = (9, 0, 0)) (hI : Inv M) : Ci l D B cy yX9_isReadAs cX9_isReadAs 2 (some .boolean) 3 64 [.ref (B + a), .ref (B + d)] M (fun r M1 => ∃ z : Int, r = zI z ∧ (0 ≤ z ∧ z ≤ 1) ∧ M1 = M) := by
  refine s_anyQ (by decide) (Nat.le_of_ble_eq_true rfl) ?_
  intro p e s m args below meth c ls Q F hr hlocks hQ w hl
  have F : CallFix p m c cX9_isReadAs 2 s args TB RX9 := F
  have hx := F.1
  have hb := F.2.1
  have hl : lv_has ls 2 [(0, .ref (B + a)), (1, .ref (B + d))] := hl
  refine lv_aload_n hx hb dX9_isReadAs_0 rfl (lv_at hl 0 rfl) ?_
  refine k_Vl F w (As := []) (rest := []) (a := a) (kd_lt (a := a) hka (by decide)) (sh_9 hka _ _) rfl (q_X9_kindsRead (a := a) hka  hI) gv_X9_80 hv_X9_kindsRead ⟨(Nat.le_of_ble_eq_true rfl), (Nat.le_of_ble_eq_true rfl)⟩ hl.1 rfl (Nat.le_of_ble_eq_true rfl) ⟨Nat.zero_le _, Nat.zero_le _⟩ dX9_isReadAs_1 (fun r1 N2 H locs hp w => ?_)
  rw [hp] at w
  refine lv_aload_n hx hb dX9_isReadAs_4 rfl (lv_at hl 1 rfl) ?_
  refine k_Vl F w (As := []) (rest := [.long r1]) (a := d) (kd_lt (a := d) hkd (by decide)) (sh_9 hkd _ _) rfl (q_X9_kindsRead (a := d) hkd  hI) gv_X9_80 hv_X9_kindsRead ⟨(Nat.le_of_ble_eq_true rfl), (Nat.le_of_ble_eq_true rfl)⟩ hl.1 rfl (Nat.le_of_ble_eq_true rfl) ⟨Nat.zero_le _, Nat.zero_le _⟩ dX9_isReadAs_5 (fun r4 N5 H locs hp w => ?_)
  rw [hp] at w
  refine W.lcmp hx hb dX9_isReadAs_8 ?_
  refine lv_topi (fun u7 eu7 => ?_)
  obtain ⟨z8, bz8, rfl⟩ := rg_ex u7
  refine z_if_ne (tgt := 28) hx hb (by omega) dX9_isReadAs_9 (by decide) (fun c9 => ?_) (fun c9 => ?_)
  · refine lv_iconst (v := zI 0) hx hb dX9_isReadAs_28 rfl ?_
    rw [hQ]
    exact e_z F w hr hlocks (nar_z (by omega)) ⟨_, rfl, (by omega), rfl⟩ dX9_isReadAs_29
  · refine lv_aload_n hx hb dX9_isReadAs_12 rfl (lv_at hl 0 rfl) ?_
    refine k_Vl F w (As := []) (rest := []) (a := a) (kd_lt (a := a) hka (by decide)) (sh_9 hka _ _) rfl (q_X9_linesRead (a := a) hka  hI) gv_X9_84 hv_X9_linesRead ⟨(Nat.le_of_ble_eq_true rfl), (Nat.le_of_ble_eq_true rfl)⟩ hl.1 rfl (Nat.le_of_ble_eq_true rfl) ⟨Nat.zero_le _, Nat.zero_le _⟩ dX9_isReadAs_13 (fun r10 N11 H locs hp w => ?_)
    rw [hp] at w
    refine lv_aload_n hx hb dX9_isReadAs_16 rfl (lv_at hl 1 rfl) ?_
    refine k_Vl F w (As := []) (rest := [.long r10]) (a := d) (kd_lt (a := d) hkd (by decide)) (sh_9 hkd _ _) rfl (q_X9_linesRead (a := d) hkd  hI) gv_X9_84 hv_X9_linesRead ⟨(Nat.le_of_ble_eq_true rfl), (Nat.le_of_ble_eq_true rfl)⟩ hl.1 rfl (Nat.le_of_ble_eq_true rfl) ⟨Nat.zero_le _, Nat.zero_le _⟩ dX9_isReadAs_17 (fun r13 N14 H locs hp w => ?_)
    rw [hp] at w
    refine W.lcmp hx hb dX9_isReadAs_20 ?_
    refine lv_topi (fun u16 eu16 => ?_)
    obtain ⟨z17, bz17, rfl⟩ := rg_ex u16
    refine z_if_ne (tgt := 28) hx hb (by omega) dX9_isReadAs_21 (by decide) (fun c18 => ?_) (fun c18 => ?_)
    · refine lv_iconst (v := zI 0) hx hb dX9_isReadAs_28 rfl ?_
      rw [hQ]
      exact e_z F w hr hlocks (nar_z (by omega)) ⟨_, rfl, (by omega), rfl⟩ dX9_isReadAs_29
    · refine lv_iconst (v := zI 1) hx hb dX9_isReadAs_24 rfl ?_
      refine lv_goto (tgt := 29) hx hb dX9_isReadAs_25 (by decide) ?_
      rw [hQ]
      exact e_z F w hr hlocks (nar_z (by omega)) ⟨_, rfl, (by omega), rfl⟩ dX9_isReadAs_29
set_option maxRecDepth 4000 in
theorem q_X9_clear {l : Launch} {D : va_G} {B : Nat} {cy : Nat → ClassId} {M : Mem} {a : Nat} (hka : kd a = (9, 0, 0)) (hI : Inv M) : Cv l D B cy yX9_clear cX9_clear 1 0 0 [.ref (B + a)] M (fun M1 => Inv M1 ∧ Fr (fun b9 k9 => b9 = a) M1 M) := by
  refine s_anyQ (by decide) (Nat.le_of_ble_eq_true rfl) ?_
  intro p e s m args below meth c ls Q F hr hlocks hQ w hl
  have F : CallFix p m c cX9_clear 1 s args TB RX9 := F
  have hx := F.1
  have hb := F.2.1
  have hl : lv_has ls 1 [(0, .ref (B + a))] := hl
  have hF : Fr (fun b9 k9 => b9 = a) M M := Fr.rf
  refine lv_aload_n hx hb dX9_clear_0 rfl (lv_at hl 0 rfl) ?_
  refine lv_iconst (v := zI 0) hx hb dX9_clear_1 rfl ?_
  refine u_9_0 F w (a := a) hka tb_0 dX9_clear_2 (fun H locs w => ?_)
  refine lv_aload_n hx hb dX9_clear_5 rfl (lv_at hl 0 rfl) ?_
  refine lv_iconst (v := zI 0) hx hb dX9_clear_6 rfl ?_
  refine u_9_1 F w (a := a) hka tb_1 dX9_clear_7 (fun H locs w => ?_)
  refine lv_aload_n hx hb dX9_clear_10 rfl (lv_at hl 0 rfl) ?_
  refine lv_iconst (v := zI 0) hx hb dX9_clear_11 rfl ?_
  refine u_9_2 F w (a := a) hka tb_11 dX9_clear_12 (fun H locs w => ?_)
  refine lv_aload_n hx hb dX9_clear_15 rfl (lv_at hl 0 rfl) ?_
  refine lv_iconst (v := zI 0) hx hb dX9_clear_16 rfl ?_
  refine u_9_3 F w (a := a) hka tb_12 dX9_clear_17 (fun H locs w => ?_)
  rw [hQ]
  exact e_v F w hr hlocks ⟨(Inv.to (Inv.to (Inv.to (Inv.to hI (a := a) (k := 0) (x := 0) (iv_w0 hka) (by omega)) (a := a) (k := 1) (x := 0) (iv_w1 hka) (by omega)) (a := a) (k := 2) (x := 0) (iv_w2 hka) (by omega)) (a := a) (k := 3) (x := 0) (iv_w3 hka) (by omega)), (Fr.to (Fr.to (Fr.to (Fr.to hF (by first | omega | (dsimp only; first | done | omega))) (by first | omega | (dsimp only; first | done | omega))) (by first | omega | (dsimp only; first | done | omega))) (by first | omega | (dsimp only; first | done | omega)))⟩ dX9_clear_20
set_option maxRecDepth 4000 in
theorem q_X9_copySyllables {l : Launch} {D : va_G} {B : Nat} {cy : Nat → ClassId} {M : Mem} {a : Nat} (hka : kd a = (9, 0, 0)) {d : Nat} (hkd : kd d = (9, 0, 0)) (hI : Inv M) : Cv l D B cy yX9_copySyllables cX9_copySyllables 2 0 0 [.ref (B + a), .ref (B + d)] M (fun M1 => Inv M1 ∧ Fr (fun b9 k9 => b9 = a) M1 M) := by
  refine s_anyQ (by decide) (Nat.le_of_ble_eq_true rfl) ?_
  intro p e s m args below meth c ls Q F hr hlocks hQ w hl
  have F : CallFix p m c cX9_copySyllables 2 s args TB RX9 := F
  have hx := F.1
  have hb := F.2.1
  have hl : lv_has ls 2 [(0, .ref (B + a)), (1, .ref (B + d))] := hl
  have hF : Fr (fun b9 k9 => b9 = a) M M := Fr.rf
  refine lv_aload_n hx hb dX9_copySyllables_0 rfl (lv_at hl 0 rfl) ?_
  refine lv_aload_n hx hb dX9_copySyllables_1 rfl (lv_at hl 1 rfl) ?_
  refine f_9_1 F w (a := d) hkd tb_1 dX9_copySyllables_2 ?_
  obtain ⟨z1, bz1, ez1⟩ := Inv.ld (k := 1) hI (iv_w1 hkd) (by have := lt_w hkd; omega)
  refine r_val ez1 ?_
  refine u_9_1 F w (a := a) hka tb_1 dX9_copySyllables_5 (fun H locs w => ?_)
  refine lv_aload_n hx hb dX9_copySyllables_8 rfl (lv_at hl 0 rfl) ?_
  refine lv_aload_n hx hb dX9_copySyllables_9 rfl (lv_at hl 1 rfl) ?_
  refine f_9_2 F w (a := d) hkd tb_11 dX9_copySyllables_10 ?_
  obtain ⟨z2, bz2, ez2⟩ := Inv.ld (k := 2) (Inv.to hI (a := a) (k := 1) (x := z1) (iv_w1 hka) (by omega)) (iv_w2 hkd) (by have := lt_w hkd; omega)
  refine r_val ez2 ?_
  refine u_9_2 F w (a := a) hka tb_11 dX9_copySyllables_13 (fun H locs w => ?_)
  refine lv_aload_n hx hb dX9_copySyllables_16 rfl (lv_at hl 0 rfl) ?_
  refine lv_aload_n hx hb dX9_copySyllables_17 rfl (lv_at hl 1 rfl) ?_
  refine f_9_3 F w (a := d) hkd tb_12 dX9_copySyllables_18 ?_
  obtain ⟨z3, bz3, ez3⟩ := Inv.ld (k := 3) (Inv.to (Inv.to hI (a := a) (k := 1) (x := z1) (iv_w1 hka) (by omega)) (a := a) (k := 2) (x := z2) (iv_w2 hka) (by omega)) (iv_w3 hkd) (by have := lt_w hkd; omega)
  refine r_val ez3 ?_
  refine u_9_3 F w (a := a) hka tb_12 dX9_copySyllables_21 (fun H locs w => ?_)
  rw [hQ]
  exact e_v F w hr hlocks ⟨(Inv.to (Inv.to (Inv.to hI (a := a) (k := 1) (x := z1) (iv_w1 hka) (by omega)) (a := a) (k := 2) (x := z2) (iv_w2 hka) (by omega)) (a := a) (k := 3) (x := z3) (iv_w3 hka) (by omega)), (Fr.to (Fr.to (Fr.to hF (by first | omega | (dsimp only; first | done | omega))) (by first | omega | (dsimp only; first | done | omega))) (by first | omega | (dsimp only; first | done | omega)))⟩ dX9_copySyllables_24
set_option maxRecDepth 4000 in
theorem q_X9_copyFrom {l : Launch} {D : va_G} {B : Nat} {cy : Nat → ClassId} {M : Mem} {a : Nat} (hka : kd a = (9, 0, 0)) {d : Nat} (hkd : kd d = (9, 0, 0)) (hI : Inv M) : Cv l D B cy yX9_copyFrom cX9_copyFrom 2 1 40 [.ref (B + a), .ref (B + d)] M (fun M1 => Inv M1 ∧ Fr (fun b9 k9 => b9 = (a + 1) ∨ b9 = (a + 2) ∨ b9 = a) M1 M) := by
  refine s_anyQ (by decide) (Nat.le_of_ble_eq_true rfl) ?_
  intro p e s m args below meth c ls Q F hr hlocks hQ w hl
  have F : CallFix p m c cX9_copyFrom 2 s args TB RX9 := F
  have hx := F.1
  have hb := F.2.1
  have hl : lv_has ls 2 [(0, .ref (B + a)), (1, .ref (B + d))] := hl
  have hF : Fr (fun b9 k9 => b9 = (a + 1) ∨ b9 = (a + 2) ∨ b9 = a) M M := Fr.rf
  refine lv_aload_n hx hb dX9_copyFrom_0 rfl (lv_at hl 0 rfl) ?_
  refine lv_aload_n hx hb dX9_copyFrom_1 rfl (lv_at hl 1 rfl) ?_
  refine k_Vv F w (As := [.ref (B + d)]) (rest := []) (a := a) (kd_lt (a := a) hka (by decide)) (sh_9 hka _ _) rfl (q_X9_copySyllables (a := a) hka (d := d) hkd  hI) gv_X9_31 hv_X9_copySyllables ⟨(Nat.le_of_ble_eq_true rfl), (Nat.le_of_ble_eq_true rfl)⟩ hl.1 rfl (Nat.le_of_ble_eq_true rfl) ⟨Nat.zero_le _, Nat.zero_le _⟩ dX9_copyFrom_2 (fun N2 H locs hp w => ?_)
  obtain ⟨hIN2, hFN2⟩ := hp
  have hGN2 := Fr.tr hF hFN2 (S := (fun b9 k9 => b9 = (a + 1) ∨ b9 = (a + 2) ∨ b9 = a)) (fun b k h => by (try dsimp only at h ⊢); (repeat' (refine Or.elim h ?_ ?_ <;> clear h <;> intro h)); all_goals first | (obtain ⟨rfl, rfl⟩ := h; decide) | (subst h; decide) | omega)
  refine lv_aload_n hx hb dX9_copyFrom_5 rfl (lv_at hl 0 rfl) ?_
  refine lv_aload_n hx hb dX9_copyFrom_6 rfl (lv_at hl 1 rfl) ?_
  refine f_9_0 F w (a := d) hkd tb_0 dX9_copyFrom_7 ?_
  obtain ⟨z4, bz4, ez4⟩ := Inv.ld (k := 0) hIN2 (iv_w0 hkd) (by have := lt_w hkd; omega)
  refine r_val ez4 ?_
  refine u_9_0 F w (a := a) hka tb_0 dX9_copyFrom_10 (fun H locs w => ?_)
  refine lv_aload_n hx hb dX9_copyFrom_13 rfl (lv_at hl 1 rfl) ?_
  refine f_9_4 F w (a := d) hkd tb_7 dX9_copyFrom_14 ?_
  refine lv_iconst (v := zI 0) hx hb dX9_copyFrom_17 rfl ?_
  refine lv_aload_n hx hb dX9_copyFrom_18 rfl (lv_at hl 0 rfl) ?_
  refine f_9_4 F w (a := a) hka tb_7 dX9_copyFrom_19 ?_
  refine lv_iconst (v := zI 0) hx hb dX9_copyFrom_22 rfl ?_
  refine lv_bipush (v := zI 12) hx hb dX9_copyFrom_23 (by decide) ?_
  refine g_copyi F w (a0 := (d + 1)) (a1 := (a + 1)) (kd_w1 hkd) (kd_w1 hka) hl.1 tb_32 tb_33 tb_34 tb_35 (by decide) (by decide) (by decide) (by decide) (by decide) (Nat.le_of_ble_eq_true rfl) (Nat.le_of_ble_eq_true rfl) dX9_copyFrom_25 (fun H locs w => ?_)
  have hIN5 : Inv (sA (st N2 a 0 (zI z4)) (a + 1) (va_cpy (Prod.fst (st N2 a 0 (zI z4)) (d + 1)) (Prod.fst (st N2 a 0 (zI z4)) (a + 1)) 0 0 12)) := Inv.cp (Inv.to hIN2 (a := a) (k := 0) (x := z4) (iv_w0 hka) (by omega)) (fun _ => (iv_wk hkd _)) (fun _ => (iv_wk hka _)) (by have := lt_w hkd; omega)
  have hFN5 : Fr (fun b9 k9 => b9 = (a + 1) ∨ b9 = (a + 2) ∨ b9 = a) (sA (st N2 a 0 (zI z4)) (a + 1) (va_cpy (Prod.fst (st N2 a 0 (zI z4)) (d + 1)) (Prod.fst (st N2 a 0 (zI z4)) (a + 1)) 0 0 12)) M := Fr.sA (Fr.to hGN2 (by first | omega | (dsimp only; first | done | omega))) (fun k => by first | omega | (dsimp only; first | done | omega))
  replace w : Wd D B cy s s.heap (sA (st N2 a 0 (zI z4)) (a + 1) (va_cpy (Prod.fst (st N2 a 0 (zI z4)) (d + 1)) (Prod.fst (st N2 a 0 (zI z4)) (a + 1)) 0 0 12)) H locs := w
  generalize (sA (st N2 a 0 (zI z4)) (a + 1) (va_cpy (Prod.fst (st N2 a 0 (zI z4)) (d + 1)) (Prod.fst (st N2 a 0 (zI z4)) (a + 1)) 0 0 12)) = N5 at w hIN5 hFN5
  refine lv_aload_n hx hb dX9_copyFrom_28 rfl (lv_at hl 1 rfl) ?_
  refine f_9_5 F w (a := d) hkd tb_6 dX9_copyFrom_29 ?_
  refine lv_iconst (v := zI 0) hx hb dX9_copyFrom_32 rfl ?_
  refine lv_aload_n hx hb dX9_copyFrom_33 rfl (lv_at hl 0 rfl) ?_
  refine f_9_5 F w (a := a) hka tb_6 dX9_copyFrom_34 ?_
  refine lv_iconst (v := zI 0) hx hb dX9_copyFrom_37 rfl ?_
  refine lv_bipush (v := zI 12) hx hb dX9_copyFrom_38 (by decide) ?_
  refine g_copyi F w (a0 := (d + 2)) (a1 := (a + 2)) (kd_w2 hkd) (kd_w2 hka) hl.1 tb_32 tb_33 tb_34 tb_35 (by decide) (by decide) (by decide) (by decide) (by decide) (Nat.le_of_ble_eq_true rfl) (Nat.le_of_ble_eq_true rfl) dX9_copyFrom_40 (fun H locs w => ?_)
  have hIN6 : Inv (sA N5 (a + 2) (va_cpy (Prod.fst N5 (d + 2)) (Prod.fst N5 (a + 2)) 0 0 12)) := Inv.cp hIN5 (fun _ => (iv_wl hkd _)) (fun _ => (iv_wl hka _)) (by have := lt_w hkd; omega)
  have hFN6 : Fr (fun b9 k9 => b9 = (a + 1) ∨ b9 = (a + 2) ∨ b9 = a) (sA N5 (a + 2) (va_cpy (Prod.fst N5 (d + 2)) (Prod.fst N5 (a + 2)) 0 0 12)) M := Fr.sA hFN5 (fun k => by first | omega | (dsimp only; first | done | omega))
  replace w : Wd D B cy s s.heap (sA N5 (a + 2) (va_cpy (Prod.fst N5 (d + 2)) (Prod.fst N5 (a + 2)) 0 0 12)) H locs := w
  generalize (sA N5 (a + 2) (va_cpy (Prod.fst N5 (d + 2)) (Prod.fst N5 (a + 2)) 0 0 12)) = N6 at w hIN6 hFN6
  rw [hQ]
  exact e_v F w hr hlocks ⟨hIN6, hFN6⟩ dX9_copyFrom_43
