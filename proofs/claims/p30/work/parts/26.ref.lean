theorem q_firstOf {l : Launch} {D : va_G} {B : Nat} {cy : Nat → ClassId} {M : Mem} {x : Int} (h : 0 ≤ x ∧ x ≤ 4095) : Ci l D B cy yX12_firstOf cX12_firstOf 2 (some .int) 1 21 [.int (zI x)] M (fun r M1 => r = zI (lowI x.toNat) ∧ M1 = M) := by
  have h1 := s_X12_firstOf (l := l) (D := D) (B := B) (cy := cy) (M := M) (m9 := x.toNat) (by omega)
  rwa [show ((x.toNat : Nat) : Int) = x by omega] at h1
theorem q_lastOf {l : Launch} {D : va_G} {B : Nat} {cy : Nat → ClassId} {M : Mem} {x : Int} (h : 0 ≤ x ∧ x ≤ 4095) : Ci l D B cy yX12_lastOf cX12_lastOf 2 (some .int) 1 21 [.int (zI x)] M (fun r M1 => r = zI (higI x.toNat) ∧ M1 = M) := by
  have h1 := s_X12_lastOf (l := l) (D := D) (B := B) (cy := cy) (M := M) (m9 := x.toNat) (by omega)
  rwa [show ((x.toNat : Nat) : Int) = x by omega] at h1
theorem q_bitsOf {l : Launch} {D : va_G} {B : Nat} {cy : Nat → ClassId} {M : Mem} {x : Int} (h : 0 ≤ x ∧ x ≤ 4095) : Ci l D B cy yX12_bitsOf cX12_bitsOf 3 (some .int) 0 0 [.int (zI x)] M (fun r M1 => r = zI (((pop x.toNat : Nat) : Int)) ∧ M1 = M) := by
  have h1 := s_X12_bitsOf (l := l) (D := D) (B := B) (cy := cy) (M := M) (m9 := x.toNat) (by omega)
  rwa [show ((x.toNat : Nat) : Int) = x by omega] at h1
theorem q_isOpen_147 {l : Launch} {D : va_G} {B : Nat} {cy : Nat → ClassId} {M : Mem} {t : Int} (ht : 0 ≤ t ∧ t ≤ 11) {y : Int} (hy : 0 ≤ y ∧ y ≤ 11) {nn : Int} (hg : M.1 147 0 = zI nn) (hnn : 0 ≤ nn ∧ nn ≤ 12) (hpre0 : t < nn) (hI : IvR M) : Ci l D B cy yX12_isOpen cX12_isOpen 5 (some .boolean) 2 42 [.ref (B + 147), .int (zI t), .int (zI y)] M (fun r M1 => ∃ z : Int, r = zI z ∧ (0 ≤ z ∧ z ≤ 1) ∧ (z = 0 ∨ OpN M 147 t y) ∧ M1 = M) := by
  obtain ⟨L, h1, h2⟩ := L_ex (n := nn.toNat) hI (show 147 = 147 ∨ 147 = 148 ∨ 147 = 151 by decide) (by omega)
  have h3 := s_X12_isOpenL (l := l) (D := D) (B := B) (cy := cy) (M := M) (n := nn.toNat) (L := L) (show kd 147 = (22, 28, 0) from rfl) (by rw [hg, show ((nn.toNat : Nat) : Int) = nn by omega]) h1 (by omega) h2 (t := t.toNat) (j := y.toNat) (by omega) (by omega) hI (show 147 = 147 ∨ 147 = 148 ∨ 147 = 151 by decide)
  rwa [show ((t.toNat : Nat) : Int) = t by omega, show ((y.toNat : Nat) : Int) = y by omega] at h3
theorem q_insert_147 {l : Launch} {D : va_G} {B : Nat} {cy : Nat → ClassId} {M : Mem} {t : Int} (ht : 0 ≤ t ∧ t ≤ 11) {x : Int} (hx : -99 ≤ x ∧ x ≤ 300) {nn : Int} (hg : M.1 147 0 = zI nn) (hnn : 0 ≤ nn ∧ nn ≤ 12) (hpre0 : t ≤ nn) (hpre1 : nn ≤ 11) (hI : IvR M) : Cv l D B cy yX12_insert cX12_insert 4 0 0 [.ref (B + 147), .int (zI t), .int (zI x)] M (fun M1 => M1.1 147 0 = zI (nn + 1) ∧ IvR M1 ∧ Fr (fun b9 _ => b9 = 147) M1 M) := by
  have h3 := s_X12_insertL (l := l) (D := D) (B := B) (cy := cy) (M := M) (n := nn.toNat) (show kd 147 = (22, 28, 0) from rfl) (by rw [hg, show ((nn.toNat : Nat) : Int) = nn by omega]) (by omega) (t := t.toNat) (x := x) (by omega) (by omega) hx hI (show 147 = 147 ∨ 147 = 148 ∨ 147 = 151 by decide)
  rwa [show ((t.toNat : Nat) : Int) = t by omega, show ((nn.toNat : Nat) : Int) = nn by omega] at h3
theorem q_remove_147 {l : Launch} {D : va_G} {B : Nat} {cy : Nat → ClassId} {M : Mem} {t : Int} (ht : 0 ≤ t ∧ t ≤ 11) {nn : Int} (hg : M.1 147 0 = zI nn) (hnn : 0 ≤ nn ∧ nn ≤ 12) (hpre0 : t < nn) (hI : IvR M) : Cv l D B cy yX12_remove cX12_remove 3 0 0 [.ref (B + 147), .int (zI t)] M (fun M1 => M1.1 147 0 = zI (nn - 1) ∧ IvR M1 ∧ Fr (fun b9 _ => b9 = 147) M1 M) := by
  have h3 := s_X12_removeL (l := l) (D := D) (B := B) (cy := cy) (M := M) (n := nn.toNat) (show kd 147 = (22, 28, 0) from rfl) (by rw [hg, show ((nn.toNat : Nat) : Int) = nn by omega]) (by omega) (t := t.toNat) (by omega) hI (show 147 = 147 ∨ 147 = 148 ∨ 147 = 151 by decide)
  rwa [show ((t.toNat : Nat) : Int) = t by omega, show ((nn.toNat : Nat) : Int) = nn by omega] at h3
theorem q_isOpen_148 {l : Launch} {D : va_G} {B : Nat} {cy : Nat → ClassId} {M : Mem} {t : Int} (ht : 0 ≤ t ∧ t ≤ 11) {y : Int} (hy : 0 ≤ y ∧ y ≤ 11) {nn : Int} (hg : M.1 148 0 = zI nn) (hnn : 0 ≤ nn ∧ nn ≤ 12) (hpre0 : t < nn) (hI : IvR M) : Ci l D B cy yX12_isOpen cX12_isOpen 5 (some .boolean) 2 42 [.ref (B + 148), .int (zI t), .int (zI y)] M (fun r M1 => ∃ z : Int, r = zI z ∧ (0 ≤ z ∧ z ≤ 1) ∧ (z = 0 ∨ OpN M 148 t y) ∧ M1 = M) := by
  obtain ⟨L, h1, h2⟩ := L_ex (n := nn.toNat) hI (show 148 = 147 ∨ 148 = 148 ∨ 148 = 151 by decide) (by omega)
  have h3 := s_X12_isOpenL (l := l) (D := D) (B := B) (cy := cy) (M := M) (n := nn.toNat) (L := L) (show kd 148 = (22, 28, 0) from rfl) (by rw [hg, show ((nn.toNat : Nat) : Int) = nn by omega]) h1 (by omega) h2 (t := t.toNat) (j := y.toNat) (by omega) (by omega) hI (show 148 = 147 ∨ 148 = 148 ∨ 148 = 151 by decide)
  rwa [show ((t.toNat : Nat) : Int) = t by omega, show ((y.toNat : Nat) : Int) = y by omega] at h3
theorem q_insert_148 {l : Launch} {D : va_G} {B : Nat} {cy : Nat → ClassId} {M : Mem} {t : Int} (ht : 0 ≤ t ∧ t ≤ 11) {x : Int} (hx : -99 ≤ x ∧ x ≤ 300) {nn : Int} (hg : M.1 148 0 = zI nn) (hnn : 0 ≤ nn ∧ nn ≤ 12) (hpre0 : t ≤ nn) (hpre1 : nn ≤ 11) (hI : IvR M) : Cv l D B cy yX12_insert cX12_insert 4 0 0 [.ref (B + 148), .int (zI t), .int (zI x)] M (fun M1 => M1.1 148 0 = zI (nn + 1) ∧ IvR M1 ∧ Fr (fun b9 _ => b9 = 148) M1 M) := by
  have h3 := s_X12_insertL (l := l) (D := D) (B := B) (cy := cy) (M := M) (n := nn.toNat) (show kd 148 = (22, 28, 0) from rfl) (by rw [hg, show ((nn.toNat : Nat) : Int) = nn by omega]) (by omega) (t := t.toNat) (x := x) (by omega) (by omega) hx hI (show 148 = 147 ∨ 148 = 148 ∨ 148 = 151 by decide)
  rwa [show ((t.toNat : Nat) : Int) = t by omega, show ((nn.toNat : Nat) : Int) = nn by omega] at h3
theorem q_remove_148 {l : Launch} {D : va_G} {B : Nat} {cy : Nat → ClassId} {M : Mem} {t : Int} (ht : 0 ≤ t ∧ t ≤ 11) {nn : Int} (hg : M.1 148 0 = zI nn) (hnn : 0 ≤ nn ∧ nn ≤ 12) (hpre0 : t < nn) (hI : IvR M) : Cv l D B cy yX12_remove cX12_remove 3 0 0 [.ref (B + 148), .int (zI t)] M (fun M1 => M1.1 148 0 = zI (nn - 1) ∧ IvR M1 ∧ Fr (fun b9 _ => b9 = 148) M1 M) := by
  have h3 := s_X12_removeL (l := l) (D := D) (B := B) (cy := cy) (M := M) (n := nn.toNat) (show kd 148 = (22, 28, 0) from rfl) (by rw [hg, show ((nn.toNat : Nat) : Int) = nn by omega]) (by omega) (t := t.toNat) (by omega) hI (show 148 = 147 ∨ 148 = 148 ∨ 148 = 151 by decide)
  rwa [show ((t.toNat : Nat) : Int) = t by omega, show ((nn.toNat : Nat) : Int) = nn by omega] at h3
theorem q_isOpen_151 {l : Launch} {D : va_G} {B : Nat} {cy : Nat → ClassId} {M : Mem} {t : Int} (ht : 0 ≤ t ∧ t ≤ 11) {y : Int} (hy : 0 ≤ y ∧ y ≤ 11) {nn : Int} (hg : M.1 151 0 = zI nn) (hnn : 0 ≤ nn ∧ nn ≤ 12) (hpre0 : t < nn) (hI : IvR M) : Ci l D B cy yX12_isOpen cX12_isOpen 5 (some .boolean) 2 42 [.ref (B + 151), .int (zI t), .int (zI y)] M (fun r M1 => ∃ z : Int, r = zI z ∧ (0 ≤ z ∧ z ≤ 1) ∧ (z = 0 ∨ OpN M 151 t y) ∧ M1 = M) := by
  obtain ⟨L, h1, h2⟩ := L_ex (n := nn.toNat) hI (show 151 = 147 ∨ 151 = 148 ∨ 151 = 151 by decide) (by omega)
  have h3 := s_X12_isOpenL (l := l) (D := D) (B := B) (cy := cy) (M := M) (n := nn.toNat) (L := L) (show kd 151 = (22, 28, 0) from rfl) (by rw [hg, show ((nn.toNat : Nat) : Int) = nn by omega]) h1 (by omega) h2 (t := t.toNat) (j := y.toNat) (by omega) (by omega) hI (show 151 = 147 ∨ 151 = 148 ∨ 151 = 151 by decide)
  rwa [show ((t.toNat : Nat) : Int) = t by omega, show ((y.toNat : Nat) : Int) = y by omega] at h3
theorem q_insert_151 {l : Launch} {D : va_G} {B : Nat} {cy : Nat → ClassId} {M : Mem} {t : Int} (ht : 0 ≤ t ∧ t ≤ 11) {x : Int} (hx : -99 ≤ x ∧ x ≤ 300) {nn : Int} (hg : M.1 151 0 = zI nn) (hnn : 0 ≤ nn ∧ nn ≤ 12) (hpre0 : t ≤ nn) (hpre1 : nn ≤ 11) (hI : IvR M) : Cv l D B cy yX12_insert cX12_insert 4 0 0 [.ref (B + 151), .int (zI t), .int (zI x)] M (fun M1 => M1.1 151 0 = zI (nn + 1) ∧ IvR M1 ∧ Fr (fun b9 _ => b9 = 151) M1 M) := by
  have h3 := s_X12_insertL (l := l) (D := D) (B := B) (cy := cy) (M := M) (n := nn.toNat) (show kd 151 = (22, 28, 0) from rfl) (by rw [hg, show ((nn.toNat : Nat) : Int) = nn by omega]) (by omega) (t := t.toNat) (x := x) (by omega) (by omega) hx hI (show 151 = 147 ∨ 151 = 148 ∨ 151 = 151 by decide)
  rwa [show ((t.toNat : Nat) : Int) = t by omega, show ((nn.toNat : Nat) : Int) = nn by omega] at h3
theorem q_remove_151 {l : Launch} {D : va_G} {B : Nat} {cy : Nat → ClassId} {M : Mem} {t : Int} (ht : 0 ≤ t ∧ t ≤ 11) {nn : Int} (hg : M.1 151 0 = zI nn) (hnn : 0 ≤ nn ∧ nn ≤ 12) (hpre0 : t < nn) (hI : IvR M) : Cv l D B cy yX12_remove cX12_remove 3 0 0 [.ref (B + 151), .int (zI t)] M (fun M1 => M1.1 151 0 = zI (nn - 1) ∧ IvR M1 ∧ Fr (fun b9 _ => b9 = 151) M1 M) := by
  have h3 := s_X12_removeL (l := l) (D := D) (B := B) (cy := cy) (M := M) (n := nn.toNat) (show kd 151 = (22, 28, 0) from rfl) (by rw [hg, show ((nn.toNat : Nat) : Int) = nn by omega]) (by omega) (t := t.toNat) (by omega) hI (show 151 = 147 ∨ 151 = 148 ∨ 151 = 151 by decide)
  rwa [show ((t.toNat : Nat) : Int) = t by omega, show ((nn.toNat : Nat) : Int) = nn by omega] at h3
theorem q_copy_148_147 {l : Launch} {D : va_G} {B : Nat} {cy : Nat → ClassId} {M : Mem} {nn : Int} (hg : M.1 147 0 = zI nn) (hnn : 0 ≤ nn ∧ nn ≤ 12) (hI : IvR M) : Cv l D B cy yX12_copy cX12_copy 3 0 0 [.ref (B + 148), .ref (B + 147)] M (fun M1 => M1.1 148 0 = zI nn ∧ IvR M1 ∧ Fr (fun b9 _ => b9 = 148) M1 M) := by
  have h3 := s_X12_copyL (l := l) (D := D) (B := B) (cy := cy) (M := M) (a := 148) (b := 147) rfl rfl (by decide) hI (show 148 = 147 ∨ 148 = 148 ∨ 148 = 151 by decide) (show 147 = 147 ∨ 147 = 148 ∨ 147 = 151 by decide)
  rwa [hg] at h3
theorem q_copy_147_148 {l : Launch} {D : va_G} {B : Nat} {cy : Nat → ClassId} {M : Mem} {nn : Int} (hg : M.1 148 0 = zI nn) (hnn : 0 ≤ nn ∧ nn ≤ 12) (hI : IvR M) : Cv l D B cy yX12_copy cX12_copy 3 0 0 [.ref (B + 147), .ref (B + 148)] M (fun M1 => M1.1 147 0 = zI nn ∧ IvR M1 ∧ Fr (fun b9 _ => b9 = 147) M1 M) := by
  have h3 := s_X12_copyL (l := l) (D := D) (B := B) (cy := cy) (M := M) (a := 147) (b := 148) rfl rfl (by decide) hI (show 147 = 147 ∨ 147 = 148 ∨ 147 = 151 by decide) (show 148 = 147 ∨ 148 = 148 ∨ 148 = 151 by decide)
  rwa [hg] at h3
theorem q_copy_147_151 {l : Launch} {D : va_G} {B : Nat} {cy : Nat → ClassId} {M : Mem} {nn : Int} (hg : M.1 151 0 = zI nn) (hnn : 0 ≤ nn ∧ nn ≤ 12) (hI : IvR M) : Cv l D B cy yX12_copy cX12_copy 3 0 0 [.ref (B + 147), .ref (B + 151)] M (fun M1 => M1.1 147 0 = zI nn ∧ IvR M1 ∧ Fr (fun b9 _ => b9 = 147) M1 M) := by
  have h3 := s_X12_copyL (l := l) (D := D) (B := B) (cy := cy) (M := M) (a := 147) (b := 151) rfl rfl (by decide) hI (show 147 = 147 ∨ 147 = 148 ∨ 147 = 151 by decide) (show 151 = 147 ∨ 151 = 148 ∨ 151 = 151 by decide)
  rwa [hg] at h3
theorem q_remM {l : Launch} {D : va_G} {B : Nat} {cy : Nat → ClassId} {M : Mem} {t : Int} (ht : 0 ≤ t ∧ t ≤ 11) {nn : Int} (hg : M.1 148 0 = zI nn) (hnn : 0 ≤ nn ∧ nn ≤ 12) (hpre0 : t < nn) : Cv l D B cy yX12_remove cX12_remove 3 0 0 [.ref (B + 148), .int (zI t)] M (fun M1 => M1 = st (rrM M 148 t.toNat (nn.toNat - 1)) 148 0 (zI (nn - 1))) := by
  have h3 := s_X12_removeM (l := l) (D := D) (B := B) (cy := cy) (M := M) (a := 148) (n := nn.toNat) rfl (by rw [hg, show ((nn.toNat : Nat) : Int) = nn by omega]) (by omega) (t := t.toNat) (by omega)
  rwa [show ((t.toNat : Nat) : Int) = t by omega, show ((nn.toNat : Nat) : Int) = nn by omega] at h3
set_option maxRecDepth 4000 in
theorem q_X12_in {l : Launch} {D : va_G} {B : Nat} {cy : Nat → ClassId} {M : Mem} {x : Int} (hx : (-2147483648) ≤ x ∧ x ≤ 2147483647) {x1 : Int} (hx1 : (-2147483648) ≤ x1 ∧ x1 ≤ 2147483647) {x2 : Int} (hx2 : (-2147483648) ≤ x2 ∧ x2 ≤ 2147483647) (hI : IvR M) : Ci l D B cy yX12_in cX12_in 3 (some .boolean) 0 0 [.int (zI x), .int (zI x1), .int (zI x2)] M (fun r M1 => ∃ z : Int, r = zI z ∧ (0 ≤ z ∧ z ≤ 1) ∧ ((z = 1 ∧ x1 ≤ x ∧ x ≤ x2) ∨ (z = 0 ∧ (x < x1 ∨ x2 < x))) ∧ M1 = M) := by
  refine s_anyQ (by decide) (Nat.le_of_ble_eq_true rfl) ?_
  intro p e s m args below meth c ls Q F hr hlocks hQ w hl
  have F : CallFix p m c cX12_in 3 s args TB RX12 := F
  have hx := F.1
  have hb := F.2.1
  have hl : lv_has ls 3 [(0, .int (zI x)), (1, .int (zI x1)), (2, .int (zI x2))] := hl
  refine lv_iload_n hx hb dX12_in_0 rfl (lv_at hl 0 rfl) ?_
  refine lv_iload_n hx hb dX12_in_1 rfl (lv_at hl 1 rfl) ?_
  refine z_icmp_lt (tgt := 14) hx hb (by omega) (by omega) dX12_in_2 (by decide) (fun c1 => ?_) (fun c1 => ?_)
  · refine lv_iconst (v := zI 0) hx hb dX12_in_14 rfl ?_
    rw [hQ]
    exact e_z F w hr hlocks (nar_z (by omega)) ⟨_, rfl, ⟨by omega, by omega⟩, (by omega), rfl⟩ dX12_in_15
  · refine lv_iload_n hx hb dX12_in_5 rfl (lv_at hl 0 rfl) ?_
    refine lv_iload_n hx hb dX12_in_6 rfl (lv_at hl 2 rfl) ?_
    refine z_icmp_gt (tgt := 14) hx hb (by omega) (by omega) dX12_in_7 (by decide) (fun c2 => ?_) (fun c2 => ?_)
    · refine lv_iconst (v := zI 0) hx hb dX12_in_14 rfl ?_
      rw [hQ]
      exact e_z F w hr hlocks (nar_z (by omega)) ⟨_, rfl, ⟨by omega, by omega⟩, (by omega), rfl⟩ dX12_in_15
    · refine lv_iconst (v := zI 1) hx hb dX12_in_10 rfl ?_
      refine lv_goto (tgt := 15) hx hb dX12_in_11 (by decide) ?_
      rw [hQ]
      exact e_z F w hr hlocks (nar_z (by omega)) ⟨_, rfl, ⟨by omega, by omega⟩, (by omega), rfl⟩ dX12_in_15
set_option maxRecDepth 4000 in
theorem q_X12_isIn {l : Launch} {D : va_G} {B : Nat} {cy : Nat → ClassId} {M : Mem} {x : Int} (hx : (-2147483648) ≤ x ∧ x ≤ 2147483647) {x1 : Int} (hx1 : (-2147483648) ≤ x1 ∧ x1 ≤ 2147483647) (hI : IvR M) : Ci l D B cy yX12_isIn cX12_isIn 2 (some .boolean) 0 0 [.int (zI x), .int (zI x1)] M (fun r M1 => ∃ z : Int, r = zI z ∧ (0 ≤ z ∧ z ≤ 1) ∧ M1 = M) := by
  refine s_anyQ (by decide) (Nat.le_of_ble_eq_true rfl) ?_
  intro p e s m args below meth c ls Q F hr hlocks hQ w hl
  have F : CallFix p m c cX12_isIn 2 s args TB RX12 := F
  have hx := F.1
  have hb := F.2.1
  have hl : lv_has ls 2 [(0, .int (zI x)), (1, .int (zI x1))] := hl
  refine lv_iload_n hx hb dX12_isIn_0 rfl (lv_at hl 0 rfl) ?_
  refine lv_iload_n hx hb dX12_isIn_1 rfl (lv_at hl 1 rfl) ?_
  obtain ⟨z1, bz1, x0z1, ez1⟩ := shr_ex x x1 (by omega)
  refine lv_ishr hx hb dX12_isIn_2 ?_
  refine r_val ez1 ?_
  refine lv_iconst (v := zI 1) hx hb dX12_isIn_3 rfl ?_
  obtain ⟨z2, bz2, x0z2, x1z2, ez2⟩ := and_ex z1 1 (by omega) (by omega)
  refine lv_iand hx hb dX12_isIn_4 ?_
  refine r_val ez2 ?_
  refine lv_iconst (v := zI 1) hx hb dX12_isIn_5 rfl ?_
  refine z_icmp_ne (tgt := 13) hx hb (by omega) (by omega) dX12_isIn_6 (by decide) (fun c3 => ?_) (fun c3 => ?_)
  · refine lv_iconst (v := zI 0) hx hb dX12_isIn_13 rfl ?_
    rw [hQ]
    exact e_z F w hr hlocks (nar_z (by omega)) ⟨_, rfl, ⟨by omega, by omega⟩, rfl⟩ dX12_isIn_14
  · refine lv_iconst (v := zI 1) hx hb dX12_isIn_9 rfl ?_
    refine lv_goto (tgt := 14) hx hb dX12_isIn_10 (by decide) ?_
    rw [hQ]
    exact e_z F w hr hlocks (nar_z (by omega)) ⟨_, rfl, ⟨by omega, by omega⟩, rfl⟩ dX12_isIn_14
set_option maxRecDepth 4000 in
theorem q_X12_isTone_147 {l : Launch} {D : va_G} {B : Nat} {cy : Nat → ClassId} {M : Mem} {t : Int} (ht : (-2147483648) ≤ t ∧ t ≤ 2147483647) {nn : Int} (hgnn : M.1 147 0 = zI nn) (hnn : 0 ≤ nn ∧ nn ≤ 12) (hI : IvR M) : Ci l D B cy yX12_isTone cX12_isTone 2 (some .boolean) 1 22 [.ref (B + 147), .int (zI t)] M (fun r M1 => ∃ z : Int, r = zI z ∧ (0 ≤ z ∧ z ≤ 1) ∧ ((z = 1 ∧ 0 ≤ t ∧ t < nn) ∨ (z = 0 ∧ (t < 0 ∨ nn ≤ t))) ∧ M1 = M) := by
  refine s_anyQ (by decide) (Nat.le_of_ble_eq_true rfl) ?_
  intro p e s m args below meth c ls Q F hr hlocks hQ w hl
  have F : CallFix p m c cX12_isTone 2 s args TB RX12 := F
  have hx := F.1
  have hb := F.2.1
  have hl : lv_has ls 2 [(0, .ref (B + 147)), (1, .int (zI t))] := hl
  refine lv_iload_n hx hb dX12_isTone_0 rfl (lv_at hl 1 rfl) ?_
  refine lv_iconst (v := zI 0) hx hb dX12_isTone_1 rfl ?_
  refine lv_aload_n hx hb dX12_isTone_2 rfl (lv_at hl 0 rfl) ?_
  refine lv_iconst (v := zI 0) hx hb dX12_isTone_3 rfl ?_
  refine g_iald F w (a := 147) rfl (j := 0) ⟨by decide, by decide⟩ (by omega) dX12_isTone_4 ?_
  refine r_val (v := zI nn) (hgnn) ?_
  refine lv_iconst (v := zI 1) hx hb dX12_isTone_5 rfl ?_
  refine z_isub (z := (nn - 1)) hx hb dX12_isTone_6 (by omega) ?_
  refine k_Si F w (As := [.int (zI t), .int (zI 0), .int (zI (nn - 1))]) (rest := []) (q_X12_in (x := t) ⟨by omega, by omega⟩ (x1 := 0) ⟨by omega, by omega⟩ (x2 := (nn - 1)) ⟨by omega, by omega⟩  hI) gs_X12_55 hs_X12_in ⟨(Nat.le_of_ble_eq_true rfl), (Nat.le_of_ble_eq_true rfl)⟩ hl.1 rfl (Nat.le_of_ble_eq_true rfl) ⟨Nat.zero_le _, Nat.zero_le _⟩ dX12_isTone_7 (fun r1 N2 H locs hp w => ?_)
  obtain ⟨z3, rfl, bz3, xz3, hMN2⟩ := hp
  rw [hMN2] at w
  rw [hQ]
  exact e_z F w hr hlocks (nar_z (by omega)) ⟨_, rfl, ⟨by omega, by omega⟩, (by omega), rfl⟩ dX12_isTone_10
set_option maxRecDepth 4000 in
theorem q_X12_isTone_148 {l : Launch} {D : va_G} {B : Nat} {cy : Nat → ClassId} {M : Mem} {t : Int} (ht : (-2147483648) ≤ t ∧ t ≤ 2147483647) {nn : Int} (hgnn : M.1 148 0 = zI nn) (hnn : 0 ≤ nn ∧ nn ≤ 12) (hI : IvR M) : Ci l D B cy yX12_isTone cX12_isTone 2 (some .boolean) 1 22 [.ref (B + 148), .int (zI t)] M (fun r M1 => ∃ z : Int, r = zI z ∧ (0 ≤ z ∧ z ≤ 1) ∧ ((z = 1 ∧ 0 ≤ t ∧ t < nn) ∨ (z = 0 ∧ (t < 0 ∨ nn ≤ t))) ∧ M1 = M) := by
  refine s_anyQ (by decide) (Nat.le_of_ble_eq_true rfl) ?_
  intro p e s m args below meth c ls Q F hr hlocks hQ w hl
  have F : CallFix p m c cX12_isTone 2 s args TB RX12 := F
  have hx := F.1
  have hb := F.2.1
  have hl : lv_has ls 2 [(0, .ref (B + 148)), (1, .int (zI t))] := hl
  refine lv_iload_n hx hb dX12_isTone_0 rfl (lv_at hl 1 rfl) ?_
  refine lv_iconst (v := zI 0) hx hb dX12_isTone_1 rfl ?_
  refine lv_aload_n hx hb dX12_isTone_2 rfl (lv_at hl 0 rfl) ?_
  refine lv_iconst (v := zI 0) hx hb dX12_isTone_3 rfl ?_
  refine g_iald F w (a := 148) rfl (j := 0) ⟨by decide, by decide⟩ (by omega) dX12_isTone_4 ?_
  refine r_val (v := zI nn) (hgnn) ?_
  refine lv_iconst (v := zI 1) hx hb dX12_isTone_5 rfl ?_
  refine z_isub (z := (nn - 1)) hx hb dX12_isTone_6 (by omega) ?_
  refine k_Si F w (As := [.int (zI t), .int (zI 0), .int (zI (nn - 1))]) (rest := []) (q_X12_in (x := t) ⟨by omega, by omega⟩ (x1 := 0) ⟨by omega, by omega⟩ (x2 := (nn - 1)) ⟨by omega, by omega⟩  hI) gs_X12_55 hs_X12_in ⟨(Nat.le_of_ble_eq_true rfl), (Nat.le_of_ble_eq_true rfl)⟩ hl.1 rfl (Nat.le_of_ble_eq_true rfl) ⟨Nat.zero_le _, Nat.zero_le _⟩ dX12_isTone_7 (fun r1 N2 H locs hp w => ?_)
  obtain ⟨z3, rfl, bz3, xz3, hMN2⟩ := hp
  rw [hMN2] at w
  rw [hQ]
  exact e_z F w hr hlocks (nar_z (by omega)) ⟨_, rfl, ⟨by omega, by omega⟩, (by omega), rfl⟩ dX12_isTone_10
set_option maxRecDepth 4000 in
theorem q_X12_isSyllable_147 {l : Launch} {D : va_G} {B : Nat} {cy : Nat → ClassId} {M : Mem} {t : Int} (ht : (-2147483648) ≤ t ∧ t ≤ 2147483647) (hI : IvR M) : Ci l D B cy yX12_isSyllable cX12_isSyllable 2 (some .boolean) 1 22 [.ref (B + 147), .int (zI t)] M (fun r M1 => ∃ z : Int, r = zI z ∧ (0 ≤ z ∧ z ≤ 1) ∧ (z = 0 ∨ (0 ≤ t ∧ t ≤ 11)) ∧ M1 = M) := by
  refine s_anyQ (by decide) (Nat.le_of_ble_eq_true rfl) ?_
  intro p e s m args below meth c ls Q F hr hlocks hQ w hl
  have F : CallFix p m c cX12_isSyllable 2 s args TB RX12 := F
  have hx := F.1
  have hb := F.2.1
  have hl : lv_has ls 2 [(0, .ref (B + 147)), (1, .int (zI t))] := hl
  refine lv_iload_n hx hb dX12_isSyllable_0 rfl (lv_at hl 1 rfl) ?_
  refine lv_iconst (v := zI 0) hx hb dX12_isSyllable_1 rfl ?_
  refine lv_aload_n hx hb dX12_isSyllable_2 rfl (lv_at hl 0 rfl) ?_
  refine lv_bipush (v := zI 25) hx hb dX12_isSyllable_3 (by decide) ?_
  refine g_iald F w (a := 147) rfl (j := 25) ⟨by decide, by decide⟩ (by omega) dX12_isSyllable_5 ?_
  obtain ⟨z1, bz1, ez1⟩ := IvR.ld (k := 25) hI (show ivr 147 25 = (0, 12) from rfl) (show 146 ≤ 147 ∧ 147 < 159 by decide)
  refine r_val ez1 ?_
  refine lv_iconst (v := zI 1) hx hb dX12_isSyllable_6 rfl ?_
  refine z_isub (z := (z1 - 1)) hx hb dX12_isSyllable_7 (by omega) ?_
  refine k_Si F w (As := [.int (zI t), .int (zI 0), .int (zI (z1 - 1))]) (rest := []) (q_X12_in (x := t) ⟨by omega, by omega⟩ (x1 := 0) ⟨by omega, by omega⟩ (x2 := (z1 - 1)) ⟨by omega, by omega⟩  hI) gs_X12_55 hs_X12_in ⟨(Nat.le_of_ble_eq_true rfl), (Nat.le_of_ble_eq_true rfl)⟩ hl.1 rfl (Nat.le_of_ble_eq_true rfl) ⟨Nat.zero_le _, Nat.zero_le _⟩ dX12_isSyllable_8 (fun r2 N3 H locs hp w => ?_)
  obtain ⟨z4, rfl, bz4, xz4, hMN3⟩ := hp
  rw [hMN3] at w
  rw [hQ]
  exact e_z F w hr hlocks (nar_z (by omega)) ⟨_, rfl, ⟨by omega, by omega⟩, (by omega), rfl⟩ dX12_isSyllable_11
set_option maxRecDepth 4000 in
theorem q_X12_isSyllable_148 {l : Launch} {D : va_G} {B : Nat} {cy : Nat → ClassId} {M : Mem} {t : Int} (ht : (-2147483648) ≤ t ∧ t ≤ 2147483647) (hI : IvR M) : Ci l D B cy yX12_isSyllable cX12_isSyllable 2 (some .boolean) 1 22 [.ref (B + 148), .int (zI t)] M (fun r M1 => ∃ z : Int, r = zI z ∧ (0 ≤ z ∧ z ≤ 1) ∧ (z = 0 ∨ (0 ≤ t ∧ t ≤ 11)) ∧ M1 = M) := by
  refine s_anyQ (by decide) (Nat.le_of_ble_eq_true rfl) ?_
  intro p e s m args below meth c ls Q F hr hlocks hQ w hl
  have F : CallFix p m c cX12_isSyllable 2 s args TB RX12 := F
  have hx := F.1
  have hb := F.2.1
  have hl : lv_has ls 2 [(0, .ref (B + 148)), (1, .int (zI t))] := hl
  refine lv_iload_n hx hb dX12_isSyllable_0 rfl (lv_at hl 1 rfl) ?_
  refine lv_iconst (v := zI 0) hx hb dX12_isSyllable_1 rfl ?_
  refine lv_aload_n hx hb dX12_isSyllable_2 rfl (lv_at hl 0 rfl) ?_
  refine lv_bipush (v := zI 25) hx hb dX12_isSyllable_3 (by decide) ?_
  refine g_iald F w (a := 148) rfl (j := 25) ⟨by decide, by decide⟩ (by omega) dX12_isSyllable_5 ?_
  obtain ⟨z1, bz1, ez1⟩ := IvR.ld (k := 25) hI (show ivr 148 25 = (0, 12) from rfl) (show 146 ≤ 148 ∧ 148 < 159 by decide)
  refine r_val ez1 ?_
  refine lv_iconst (v := zI 1) hx hb dX12_isSyllable_6 rfl ?_
  refine z_isub (z := (z1 - 1)) hx hb dX12_isSyllable_7 (by omega) ?_
  refine k_Si F w (As := [.int (zI t), .int (zI 0), .int (zI (z1 - 1))]) (rest := []) (q_X12_in (x := t) ⟨by omega, by omega⟩ (x1 := 0) ⟨by omega, by omega⟩ (x2 := (z1 - 1)) ⟨by omega, by omega⟩  hI) gs_X12_55 hs_X12_in ⟨(Nat.le_of_ble_eq_true rfl), (Nat.le_of_ble_eq_true rfl)⟩ hl.1 rfl (Nat.le_of_ble_eq_true rfl) ⟨Nat.zero_le _, Nat.zero_le _⟩ dX12_isSyllable_8 (fun r2 N3 H locs hp w => ?_)
  obtain ⟨z4, rfl, bz4, xz4, hMN3⟩ := hp
  rw [hMN3] at w
  rw [hQ]
  exact e_z F w hr hlocks (nar_z (by omega)) ⟨_, rfl, ⟨by omega, by omega⟩, (by omega), rfl⟩ dX12_isSyllable_11
set_option maxRecDepth 4000 in
theorem q_X12_tonesOf_148 {l : Launch} {D : va_G} {B : Nat} {cy : Nat → ClassId} {M : Mem} {y : Int} (hy : 0 ≤ y ∧ y ≤ 11) (hI : IvR M) : Ci l D B cy yX12_tonesOf cX12_tonesOf 4 (some .int) 1 21 [.ref (B + 148), .int (zI y)] M (fun r M1 => ∃ z : Int, r = zI z ∧ (0 ≤ z ∧ z ≤ 4095) ∧ M1 = M) := by
  refine s_anyQ (by decide) (Nat.le_of_ble_eq_true rfl) ?_
  intro p e s m args below meth c ls Q F hr hlocks hQ w hl
  have F : CallFix p m c cX12_tonesOf 4 s args TB RX12 := F
  have hx := F.1
  have hb := F.2.1
  have hl : lv_has ls 4 [(0, .ref (B + 148)), (1, .int (zI y))] := hl
  refine lv_iconst (v := zI 0) hx hb dX12_tonesOf_0 rfl ?_
  refine lv_istore_n (lv' := [(2, .int (zI 0)), (0, .ref (B + 148)), (1, .int (zI y))]) hx hb dX12_tonesOf_1 rfl hl (by decide) rfl (fun ls hl => ?_)
  refine lv_iconst (v := zI 0) hx hb dX12_tonesOf_2 rfl ?_
  refine lv_istore_n (lv' := [(3, .int (zI 0)), (2, .int (zI 0)), (0, .ref (B + 148)), (1, .int (zI y))]) hx hb dX12_tonesOf_3 rfl hl (by decide) rfl (fun ls hl => ?_)
  have lp4 : ∀ (f : Nat) (v3_4 : Int) (v2_4 : Int), (0 ≤ v3_4 ∧ v3_4 ≤ 12) → (0 ≤ v2_4 ∧ v2_4 ≤ 4095) → (Int.toNat (12 - v3_4) < f) → ∀ (H : Heap) (locs : List Loc) (ls : Array Slot), Wd D B cy s s.heap M H locs → lv_has ls 4 [(3, .int (zI v3_4)), (2, .int (zI v2_4)), (0, .ref (B + 148)), (1, .int (zI y))] → W p l e (rmm 1 21) s m args below meth c H locs 0 0 Q (F0 m 4 ls []) := by
    intro f
    induction f with
    | zero => intros; omega
    | succ f ih4 =>
      intro v3_4 v2_4  iv3_4 iv2_4 hf4 H locs ls w hl
      refine lv_iload_n hx hb dX12_tonesOf_4 rfl (lv_at hl 0 rfl) ?_
      refine lv_aload_n hx hb dX12_tonesOf_5 rfl (lv_at hl 2 rfl) ?_
      refine lv_iconst (v := zI 0) hx hb dX12_tonesOf_6 rfl ?_
      refine g_iald F w (a := 148) rfl (j := 0) ⟨by decide, by decide⟩ (by omega) dX12_tonesOf_7 ?_
      obtain ⟨z1, bz1, ez1⟩ := IvR.ld (k := 0) hI (show ivr 148 0 = (0, 12) from rfl) (show 146 ≤ 148 ∧ 148 < 159 by decide)
      refine r_val ez1 ?_
      refine z_icmp_ge (tgt := 36) hx hb (by omega) (by omega) dX12_tonesOf_8 (by decide) (fun c2 => ?_) (fun c2 => ?_)
      · refine lv_iload_n hx hb dX12_tonesOf_36 rfl (lv_at hl 1 rfl) ?_
        rw [hQ]
        exact e_i F w hr hlocks ⟨_, rfl, ⟨by omega, by omega⟩, rfl⟩ dX12_tonesOf_37
      · refine lv_aload_n hx hb dX12_tonesOf_11 rfl (lv_at hl 2 rfl) ?_
        refine lv_bipush (v := zI 13) hx hb dX12_tonesOf_12 (by decide) ?_
        refine lv_iload_n hx hb dX12_tonesOf_14 rfl (lv_at hl 0 rfl) ?_
        refine z_iadd (z := (v3_4 + 13)) hx hb dX12_tonesOf_15 (by omega) ?_
        refine g_iald F w (a := 148) rfl (j := (13 + Int.toNat v3_4)) (ix_l (t := v3_4) (by omega) (by omega)) (by omega) dX12_tonesOf_16 ?_
        obtain ⟨z3, bz3, ez3⟩ := IvR.ld (k := (13 + Int.toNat v3_4)) hI (wiv_l (a := 148) (k := (13 + Int.toNat v3_4)) (by omega) (by omega)) (show 146 ≤ 148 ∧ 148 < 159 by decide)
        refine r_val ez3 ?_
        refine lv_iload_n hx hb dX12_tonesOf_17 rfl (lv_at hl 3 rfl) ?_
        refine k_Si F w (As := [.int (zI z3), .int (zI y)]) (rest := []) (q_X12_isIn (x := z3) ⟨by omega, by omega⟩ (x1 := y) ⟨by omega, by omega⟩  hI) gs_X12_51 hs_X12_isIn ⟨(Nat.le_of_ble_eq_true rfl), (Nat.le_of_ble_eq_true rfl)⟩ hl.1 rfl (Nat.le_of_ble_eq_true rfl) ⟨Nat.zero_le _, Nat.zero_le _⟩ dX12_tonesOf_18 (fun r4 N5 H locs hp w => ?_)
        obtain ⟨z6, rfl, bz6, hMN5⟩ := hp
        rw [hMN5] at w
        refine z_if_eq (tgt := 30) hx hb (by omega) dX12_tonesOf_21 (by decide) (fun c7 => ?_) (fun c7 => ?_)
        · refine z_iinc (v := (v3_4 + 1)) (lv' := [(3, .int (zI (v3_4 + 1))), (2, .int (zI v2_4)), (0, .ref (B + 148)), (1, .int (zI y))]) hx hb dX12_tonesOf_30 hl (k := 0) rfl (by omega) (by decide) rfl (fun ls hl => ?_)
          refine lv_goto (tgt := 4) hx hb dX12_tonesOf_33 (by decide) ?_
          exact ih4 (v3_4 + 1) v2_4 (by omega) (by omega)     (by omega) _ _ _ w (lv_sub hl [0, 1, 2, 3] rfl)
        · refine lv_iload_n hx hb dX12_tonesOf_24 rfl (lv_at hl 1 rfl) ?_
          refine lv_iconst (v := zI 1) hx hb dX12_tonesOf_25 rfl ?_
          refine lv_iload_n hx hb dX12_tonesOf_26 rfl (lv_at hl 0 rfl) ?_
          obtain ⟨z8, bz8, x0z8, ez8⟩ := shl_ex 1 v3_4
          refine lv_ishl hx hb dX12_tonesOf_27 ?_
          refine r_val ez8 ?_
          obtain ⟨z9, bz9, x0z9, ez9⟩ := or_ex v2_4 z8
          refine lv_ior hx hb dX12_tonesOf_28 ?_
          refine r_val ez9 ?_
          refine lv_istore_n (lv' := [(2, .int (zI z9)), (3, .int (zI v3_4)), (0, .ref (B + 148)), (1, .int (zI y))]) hx hb dX12_tonesOf_29 rfl hl (by decide) rfl (fun ls hl => ?_)
          refine z_iinc (v := (v3_4 + 1)) (lv' := [(3, .int (zI (v3_4 + 1))), (2, .int (zI z9)), (0, .ref (B + 148)), (1, .int (zI y))]) hx hb dX12_tonesOf_30 hl (k := 1) rfl (by omega) (by decide) rfl (fun ls hl => ?_)
          refine lv_goto (tgt := 4) hx hb dX12_tonesOf_33 (by decide) ?_
          exact ih4 (v3_4 + 1) z9 (by omega) (by omega)     (by omega) _ _ _ w (lv_sub hl [0, 1, 2, 3] rfl)
  exact lp4 _ 0 0 (by omega) (by omega) (Nat.lt_succ_self _) _ _ _ w (lv_sub hl [0, 1, 2, 3] rfl)
set_option maxRecDepth 4000 in
theorem q_X12_comes {l : Launch} {D : va_G} {B : Nat} {cy : Nat → ClassId} {M : Mem} {t : Int} (ht : 0 ≤ t ∧ t ≤ 11) {y : Int} (hy : 0 ≤ y ∧ y ≤ 11) (hpre0 : OpN M 148 t y) (hI : IvR M) : Cv l D B cy yX12_comes cX12_comes 3 0 0 [.ref (B + 146), .int (zI t), .int (zI y)] M (fun M1 => IvR M1 ∧ Fr (fun b9 k9 => (b9 = 146 ∧ k9 = 3) ∨ (b9 = 148 ∧ 13 ≤ k9 ∧ k9 ≤ 24)) M1 M) := by
  refine s_anyQ (by decide) (Nat.le_of_ble_eq_true rfl) ?_
  intro p e s m args below meth c ls Q F hr hlocks hQ w hl
  have F : CallFix p m c cX12_comes 3 s args TB RX12 := F
  have hx := F.1
  have hb := F.2.1
  have hl : lv_has ls 3 [(0, .ref (B + 146)), (1, .int (zI t)), (2, .int (zI y))] := hl
  have hF : Fr (fun b9 k9 => (b9 = 146 ∧ k9 = 3) ∨ (b9 = 148 ∧ 13 ≤ k9 ∧ k9 ≤ 24)) M M := Fr.rf
  refine lv_aload_n hx hb dX12_comes_0 rfl (lv_at hl 0 rfl) ?_
  refine f_12_2 F w (a := 146) rfl tb_45 dX12_comes_1 ?_
  refine lv_bipush (v := zI 13) hx hb dX12_comes_4 (by decide) ?_
  refine lv_iload_n hx hb dX12_comes_6 rfl (lv_at hl 1 rfl) ?_
  refine z_iadd (z := (t + 13)) hx hb dX12_comes_7 (by omega) ?_
  refine lv_dup2_11 hx hb dX12_comes_8 rfl rfl ?_
  refine g_iald F w (a := 148) rfl (j := (13 + Int.toNat t)) (ix_l (t := t) (by omega) (by omega)) (by omega) dX12_comes_9 ?_
  obtain ⟨z1, bz1, ez1⟩ := IvR.ld (k := (13 + Int.toNat t)) hI (wiv_l (a := 148) (k := (13 + Int.toNat t)) (by omega) (by omega)) (show 146 ≤ 148 ∧ 148 < 159 by decide)
  refine r_val ez1 ?_
  refine lv_iconst (v := zI 1) hx hb dX12_comes_10 rfl ?_
  refine lv_iload_n hx hb dX12_comes_11 rfl (lv_at hl 2 rfl) ?_
  obtain ⟨z2, bz2, x0z2, ez2⟩ := shl_ex 1 y
  refine lv_ishl hx hb dX12_comes_12 ?_
  refine r_val ez2 ?_
  obtain ⟨z3, bz3, x0z3, ez3⟩ := or_ex z1 z2
  refine lv_ior hx hb dX12_comes_13 ?_
  refine r_val ez3 ?_
  refine g_iast F w (a := 148) rfl (j := (13 + Int.toNat t)) (ix_l (t := t) (by omega) (by omega)) (by omega) dX12_comes_14 (fun H locs w => ?_)
  refine lv_aload_n hx hb dX12_comes_15 rfl (lv_at hl 0 rfl) ?_
  refine lv_dup hx hb dX12_comes_16 rfl ?_
  refine f_12_3 F w (a := 146) rfl tb_46 dX12_comes_17 ?_
  obtain ⟨z4, bz4, ez4⟩ := IvR.ld (k := 3) (IvR.toO hI (a := 148) (t := t) (y := y) (x := z3) (by omega) (by omega) (hpre0) (or_eq (ez1) ez2 ez3) (by omega)) (show ivr 146 3 = ((-2147483648), 2147483647) from rfl) (show 146 ≤ 146 ∧ 146 < 159 by decide)
  refine r_val ez4 ?_
  refine lv_iconst (v := zI 1) hx hb dX12_comes_20 rfl ?_
  obtain ⟨z5, bz5, x0z5, ez5⟩ := add_ex z4 1
  refine lv_iadd hx hb dX12_comes_21 ?_
  refine r_val ez5 ?_
  refine u_12_3 F w (a := 146) rfl tb_46 dX12_comes_22 (fun H locs w => ?_)
  rw [hQ]
  exact e_v F w hr hlocks ⟨(IvR.to (IvR.toO hI (a := 148) (t := t) (y := y) (x := z3) (by omega) (by omega) (hpre0) (or_eq (ez1) ez2 ez3) (by omega)) (a := 146) (k := 3) (x := z5) (show ivr 146 3 = ((-2147483648), 2147483647) from rfl) ⟨by omega, by omega⟩ ⟨by decide, by decide, by decide, fun q9 => absurd q9 (by decide)⟩), (Fr.to (Fr.to hF (by first | decide | (dsimp only; first | done | decide | omega) | omega)) (by first | decide | (dsimp only; first | done | decide | omega) | omega))⟩ dX12_comes_25
set_option maxRecDepth 4000 in
theorem q_X12_goes {l : Launch} {D : va_G} {B : Nat} {cy : Nat → ClassId} {M : Mem} {t : Int} (ht : 0 ≤ t ∧ t ≤ 11) {y : Int} (hy : 0 ≤ y ∧ y ≤ 11) (hI : IvR M) : Cv l D B cy yX12_goes cX12_goes 3 0 0 [.ref (B + 146), .int (zI t), .int (zI y)] M (fun M1 => IvR M1 ∧ Fr (fun b9 k9 => (b9 = 146 ∧ k9 = 3) ∨ (b9 = 148 ∧ 13 ≤ k9 ∧ k9 ≤ 24)) M1 M) := by
  refine s_anyQ (by decide) (Nat.le_of_ble_eq_true rfl) ?_
  intro p e s m args below meth c ls Q F hr hlocks hQ w hl
  have F : CallFix p m c cX12_goes 3 s args TB RX12 := F
  have hx := F.1
  have hb := F.2.1
  have hl : lv_has ls 3 [(0, .ref (B + 146)), (1, .int (zI t)), (2, .int (zI y))] := hl
  have hF : Fr (fun b9 k9 => (b9 = 146 ∧ k9 = 3) ∨ (b9 = 148 ∧ 13 ≤ k9 ∧ k9 ≤ 24)) M M := Fr.rf
  refine lv_aload_n hx hb dX12_goes_0 rfl (lv_at hl 0 rfl) ?_
  refine f_12_2 F w (a := 146) rfl tb_45 dX12_goes_1 ?_
  refine lv_bipush (v := zI 13) hx hb dX12_goes_4 (by decide) ?_
  refine lv_iload_n hx hb dX12_goes_6 rfl (lv_at hl 1 rfl) ?_
  refine z_iadd (z := (t + 13)) hx hb dX12_goes_7 (by omega) ?_
  refine lv_dup2_11 hx hb dX12_goes_8 rfl rfl ?_
  refine g_iald F w (a := 148) rfl (j := (13 + Int.toNat t)) (ix_l (t := t) (by omega) (by omega)) (by omega) dX12_goes_9 ?_
  obtain ⟨z1, bz1, ez1⟩ := IvR.ld (k := (13 + Int.toNat t)) hI (wiv_l (a := 148) (k := (13 + Int.toNat t)) (by omega) (by omega)) (show 146 ≤ 148 ∧ 148 < 159 by decide)
  refine r_val ez1 ?_
  refine lv_iconst (v := zI 1) hx hb dX12_goes_10 rfl ?_
  refine lv_iload_n hx hb dX12_goes_11 rfl (lv_at hl 2 rfl) ?_
  obtain ⟨z2, bz2, x0z2, ez2⟩ := shl_ex 1 y
  refine lv_ishl hx hb dX12_goes_12 ?_
  refine r_val ez2 ?_
  refine lv_iconst (v := zI (-1)) hx hb dX12_goes_13 rfl ?_
  refine lv_ixor hx hb dX12_goes_14 ?_
  refine r_val (not_ex z2) ?_
  obtain ⟨z3, bz3, x0z3, x1z3, ez3⟩ := and_ex z1 (-z2 - 1) (by omega) (by omega)
  refine lv_iand hx hb dX12_goes_15 ?_
  refine r_val ez3 ?_
  refine g_iast F w (a := 148) rfl (j := (13 + Int.toNat t)) (ix_l (t := t) (by omega) (by omega)) (by omega) dX12_goes_16 (fun H locs w => ?_)
  refine lv_aload_n hx hb dX12_goes_17 rfl (lv_at hl 0 rfl) ?_
  refine lv_dup hx hb dX12_goes_18 rfl ?_
  refine f_12_3 F w (a := 146) rfl tb_46 dX12_goes_19 ?_
  obtain ⟨z4, bz4, ez4⟩ := IvR.ld (k := 3) (IvR.toA hI (a := 148) (k := (13 + Int.toNat t)) (x := z3) (by omega) (by omega) (and_eq (ez1) ez3) (by omega)) (show ivr 146 3 = ((-2147483648), 2147483647) from rfl) (show 146 ≤ 146 ∧ 146 < 159 by decide)
  refine r_val ez4 ?_
  refine lv_iconst (v := zI 1) hx hb dX12_goes_22 rfl ?_
  obtain ⟨z5, bz5, x0z5, ez5⟩ := add_ex z4 1
  refine lv_iadd hx hb dX12_goes_23 ?_
  refine r_val ez5 ?_
  refine u_12_3 F w (a := 146) rfl tb_46 dX12_goes_24 (fun H locs w => ?_)
  rw [hQ]
  exact e_v F w hr hlocks ⟨(IvR.to (IvR.toA hI (a := 148) (k := (13 + Int.toNat t)) (x := z3) (by omega) (by omega) (and_eq (ez1) ez3) (by omega)) (a := 146) (k := 3) (x := z5) (show ivr 146 3 = ((-2147483648), 2147483647) from rfl) ⟨by omega, by omega⟩ ⟨by decide, by decide, by decide, fun q9 => absurd q9 (by decide)⟩), (Fr.to (Fr.to hF (by first | decide | (dsimp only; first | done | decide | omega) | omega)) (by first | decide | (dsimp only; first | done | decide | omega) | omega))⟩ dX12_goes_27
set_option maxRecDepth 4000 in
theorem q_X12_isBare {l : Launch} {D : va_G} {B : Nat} {cy : Nat → ClassId} {M : Mem} {y : Int} (hy : 0 ≤ y ∧ y ≤ 11) (hI : IvR M) : Ci l D B cy yX12_isBare cX12_isBare 2 (some .boolean) 2 44 [.ref (B + 146), .int (zI y)] M (fun r M1 => ∃ z : Int, r = zI z ∧ (0 ≤ z ∧ z ≤ 1) ∧ M1 = M) := by
  refine s_anyQ (by decide) (Nat.le_of_ble_eq_true rfl) ?_
  intro p e s m args below meth c ls Q F hr hlocks hQ w hl
  have F : CallFix p m c cX12_isBare 2 s args TB RX12 := F
  have hx := F.1
  have hb := F.2.1
  have hl : lv_has ls 2 [(0, .ref (B + 146)), (1, .int (zI y))] := hl
  refine lv_aload_n hx hb dX12_isBare_0 rfl (lv_at hl 0 rfl) ?_
  refine f_12_2 F w (a := 146) rfl tb_45 dX12_isBare_1 ?_
  refine lv_iload_n hx hb dX12_isBare_4 rfl (lv_at hl 1 rfl) ?_
  refine k_Si F w (As := [.ref (B + 148), .int (zI y)]) (rest := []) (q_X12_tonesOf_148 (y := y) ⟨by omega, by omega⟩  hI) gs_X12_69 hs_X12_tonesOf ⟨(Nat.le_of_ble_eq_true rfl), (Nat.le_of_ble_eq_true rfl)⟩ hl.1 rfl (Nat.le_of_ble_eq_true rfl) ⟨Nat.zero_le _, Nat.zero_le _⟩ dX12_isBare_5 (fun r1 N2 H locs hp w => ?_)
  obtain ⟨z3, rfl, bz3, hMN2⟩ := hp
  rw [hMN2] at w
  refine z_if_ne (tgt := 15) hx hb (by omega) dX12_isBare_8 (by decide) (fun c4 => ?_) (fun c4 => ?_)
  · refine lv_iconst (v := zI 0) hx hb dX12_isBare_15 rfl ?_
    rw [hQ]
    exact e_z F w hr hlocks (nar_z (by omega)) ⟨_, rfl, ⟨by omega, by omega⟩, rfl⟩ dX12_isBare_16
  · refine lv_iconst (v := zI 1) hx hb dX12_isBare_11 rfl ?_
    refine lv_goto (tgt := 16) hx hb dX12_isBare_12 (by decide) ?_
    rw [hQ]
    exact e_z F w hr hlocks (nar_z (by omega)) ⟨_, rfl, ⟨by omega, by omega⟩, rfl⟩ dX12_isBare_16
theorem dX12_fits_0 : decode cX12_fits 0 = .ok (.iload_n 1, 1) := wdX12_fits_0
theorem dX12_fits_1 : decode cX12_fits 1 = .ok (.iconst 3, 1) := wdX12_fits_1
theorem dX12_fits_2 : decode cX12_fits 2 = .ok (.if_icmp .eq 8, 3) := wdX12_fits_2
theorem dX12_fits_10 : decode cX12_fits 10 = .ok (.iconst 1, 1) := wdX12_fits_10
theorem dX12_fits_11 : decode cX12_fits 11 = .ok (.goto 4, 3) := wdX12_fits_11
theorem dX12_fits_15 : decode cX12_fits 15 = .ok (.ireturn, 1) := wdX12_fits_15
theorem dX12_fits_5 : decode cX12_fits 5 = .ok (.iload_n 0, 1) := wdX12_fits_5
theorem dX12_fits_6 : decode cX12_fits 6 = .ok (.iload_n 1, 1) := wdX12_fits_6
theorem dX12_fits_7 : decode cX12_fits 7 = .ok (.if_icmp .ne 7, 3) := wdX12_fits_7
theorem dX12_fits_14 : decode cX12_fits 14 = .ok (.iconst 0, 1) := wdX12_fits_14
set_option maxRecDepth 4000 in
theorem q_X12_fits {l : Launch} {D : va_G} {B : Nat} {cy : Nat → ClassId} {M : Mem} {x : Int} (hx : (-2147483648) ≤ x ∧ x ≤ 2147483647) {x1 : Int} (hx1 : (-2147483648) ≤ x1 ∧ x1 ≤ 2147483647) (hI : IvR M) : Ci l D B cy yX12_fits cX12_fits 2 (some .boolean) 0 0 [.int (zI x), .int (zI x1)] M (fun r M1 => ∃ z : Int, r = zI z ∧ (0 ≤ z ∧ z ≤ 1) ∧ M1 = M) := by
  refine s_anyQ (by decide) (Nat.le_of_ble_eq_true rfl) ?_
  intro p e s m args below meth c ls Q F hr hlocks hQ w hl
  have F : CallFix p m c cX12_fits 2 s args TB RX12 := F
  have hx := F.1
  have hb := F.2.1
  have hl : lv_has ls 2 [(0, .int (zI x)), (1, .int (zI x1))] := hl
  refine lv_iload_n hx hb dX12_fits_0 rfl (lv_at hl 1 rfl) ?_
  refine lv_iconst (v := zI 3) hx hb dX12_fits_1 rfl ?_
  refine z_icmp_eq (tgt := 10) hx hb (by omega) (by omega) dX12_fits_2 (by decide) (fun c1 => ?_) (fun c1 => ?_)
  · refine lv_iconst (v := zI 1) hx hb dX12_fits_10 rfl ?_
    refine lv_goto (tgt := 15) hx hb dX12_fits_11 (by decide) ?_
    rw [hQ]
    exact e_z F w hr hlocks (nar_z (by omega)) ⟨_, rfl, ⟨by omega, by omega⟩, rfl⟩ dX12_fits_15
  · refine lv_iload_n hx hb dX12_fits_5 rfl (lv_at hl 0 rfl) ?_
    refine lv_iload_n hx hb dX12_fits_6 rfl (lv_at hl 1 rfl) ?_
    refine z_icmp_ne (tgt := 14) hx hb (by omega) (by omega) dX12_fits_7 (by decide) (fun c2 => ?_) (fun c2 => ?_)
    · refine lv_iconst (v := zI 0) hx hb dX12_fits_14 rfl ?_
      rw [hQ]
      exact e_z F w hr hlocks (nar_z (by omega)) ⟨_, rfl, ⟨by omega, by omega⟩, rfl⟩ dX12_fits_15
    · refine lv_iconst (v := zI 1) hx hb dX12_fits_10 rfl ?_
      refine lv_goto (tgt := 15) hx hb dX12_fits_11 (by decide) ?_
      rw [hQ]
      exact e_z F w hr hlocks (nar_z (by omega)) ⟨_, rfl, ⟨by omega, by omega⟩, rfl⟩ dX12_fits_15
theorem dX12_isSo_0 : decode cX12_isSo 0 = .ok (.aload_n 0, 1) := wdX12_isSo_0
theorem dX12_isSo_1 : decode cX12_isSo 1 = .ok (.getfield 17, 3) := wdX12_isSo_1
theorem dX12_isSo_4 : decode cX12_isSo 4 = .ok (.bipush 13, 2) := wdX12_isSo_4
theorem dX12_isSo_6 : decode cX12_isSo 6 = .ok (.iload_n 2, 1) := wdX12_isSo_6
theorem dX12_isSo_7 : decode cX12_isSo 7 = .ok (.iadd, 1) := wdX12_isSo_7
theorem dX12_isSo_8 : decode cX12_isSo 8 = .ok (.iaload, 1) := wdX12_isSo_8
theorem dX12_isSo_9 : decode cX12_isSo 9 = .ok (.istore 4, 2) := wdX12_isSo_9
theorem dX12_isSo_11 : decode cX12_isSo 11 = .ok (.iload_n 1, 1) := wdX12_isSo_11
theorem dX12_isSo_12 : decode cX12_isSo 12 = .ok (.tableswitch 172 0 5 #[40, 54, 82, 111, 126, 137], 40) := wdX12_isSo_12
theorem dX12_isSo_52 : decode cX12_isSo 52 = .ok (.iload 4, 2) := wdX12_isSo_52
theorem dX12_isSo_54 : decode cX12_isSo 54 = .ok (.invokestatic 63, 3) := wdX12_isSo_54
theorem dX12_isSo_57 : decode cX12_isSo 57 = .ok (.ifCond .ne 7, 3) := wdX12_isSo_57
theorem dX12_isSo_64 : decode cX12_isSo 64 = .ok (.iconst 0, 1) := wdX12_isSo_64
theorem dX12_isSo_65 : decode cX12_isSo 65 = .ok (.ireturn, 1) := wdX12_isSo_65
theorem dX12_isSo_60 : decode cX12_isSo 60 = .ok (.iconst 1, 1) := wdX12_isSo_60
theorem dX12_isSo_61 : decode cX12_isSo 61 = .ok (.goto 4, 3) := wdX12_isSo_61
theorem dX12_isSo_66 : decode cX12_isSo 66 = .ok (.iload 4, 2) := wdX12_isSo_66
theorem dX12_isSo_68 : decode cX12_isSo 68 = .ok (.ifCond .eq 24, 3) := wdX12_isSo_68
theorem dX12_isSo_92 : decode cX12_isSo 92 = .ok (.iconst 0, 1) := wdX12_isSo_92
theorem dX12_isSo_93 : decode cX12_isSo 93 = .ok (.ireturn, 1) := wdX12_isSo_93
theorem dX12_isSo_71 : decode cX12_isSo 71 = .ok (.iload 4, 2) := wdX12_isSo_71
theorem dX12_isSo_73 : decode cX12_isSo 73 = .ok (.invokestatic 59, 3) := wdX12_isSo_73
theorem dX12_isSo_76 : decode cX12_isSo 76 = .ok (.aload_n 0, 1) := wdX12_isSo_76
theorem dX12_isSo_77 : decode cX12_isSo 77 = .ok (.getfield 17, 3) := wdX12_isSo_77
theorem dX12_isSo_80 : decode cX12_isSo 80 = .ok (.bipush 25, 2) := wdX12_isSo_80
theorem dX12_isSo_82 : decode cX12_isSo 82 = .ok (.iaload, 1) := wdX12_isSo_82
theorem dX12_isSo_83 : decode cX12_isSo 83 = .ok (.iconst 1, 1) := wdX12_isSo_83
theorem dX12_isSo_84 : decode cX12_isSo 84 = .ok (.isub, 1) := wdX12_isSo_84
theorem dX12_isSo_85 : decode cX12_isSo 85 = .ok (.if_icmp .ne 7, 3) := wdX12_isSo_85
theorem dX12_isSo_88 : decode cX12_isSo 88 = .ok (.iconst 1, 1) := wdX12_isSo_88
theorem dX12_isSo_89 : decode cX12_isSo 89 = .ok (.goto 4, 3) := wdX12_isSo_89
theorem dX12_isSo_94 : decode cX12_isSo 94 = .ok (.iload 4, 2) := wdX12_isSo_94
theorem dX12_isSo_96 : decode cX12_isSo 96 = .ok (.ifCond .eq 25, 3) := wdX12_isSo_96
theorem dX12_isSo_121 : decode cX12_isSo 121 = .ok (.iconst 0, 1) := wdX12_isSo_121
theorem dX12_isSo_122 : decode cX12_isSo 122 = .ok (.ireturn, 1) := wdX12_isSo_122
theorem dX12_isSo_99 : decode cX12_isSo 99 = .ok (.aload_n 0, 1) := wdX12_isSo_99
theorem dX12_isSo_100 : decode cX12_isSo 100 = .ok (.getfield 17, 3) := wdX12_isSo_100
theorem dX12_isSo_103 : decode cX12_isSo 103 = .ok (.bipush 26, 2) := wdX12_isSo_103
theorem dX12_isSo_105 : decode cX12_isSo 105 = .ok (.iaload, 1) := wdX12_isSo_105
theorem dX12_isSo_106 : decode cX12_isSo 106 = .ok (.iload 4, 2) := wdX12_isSo_106
theorem dX12_isSo_108 : decode cX12_isSo 108 = .ok (.invokestatic 59, 3) := wdX12_isSo_108
theorem dX12_isSo_111 : decode cX12_isSo 111 = .ok (.invokestatic 51, 3) := wdX12_isSo_111
theorem dX12_isSo_114 : decode cX12_isSo 114 = .ok (.ifCond .eq 7, 3) := wdX12_isSo_114
theorem dX12_isSo_117 : decode cX12_isSo 117 = .ok (.iconst 1, 1) := wdX12_isSo_117
theorem dX12_isSo_118 : decode cX12_isSo 118 = .ok (.goto 4, 3) := wdX12_isSo_118
theorem dX12_isSo_123 : decode cX12_isSo 123 = .ok (.iload 4, 2) := wdX12_isSo_123
theorem dX12_isSo_125 : decode cX12_isSo 125 = .ok (.invokestatic 76, 3) := wdX12_isSo_125
theorem tk_X12_bitsOf : Cond.code yX12_bitsOf cX12_bitsOf 3 (some .int) ∈ TB := wtk_X12_bitsOf
theorem gc_X12_bitsOf : GoodIn TB (cw yX12_bitsOf cX12_bitsOf 3 (some .int)) := goodIn_c2 tk_X12_bitsOf
theorem tb_528 : Cond.methodLink "ToneLinesModel" 76 yX12_bitsOf ∈ TB := wtb_110
theorem tb_529 : Cond.static yX12_bitsOf ∈ TB := wtb_111
theorem gs_X12_76 : GoodIn TB (va_wsS RX12 76 yX12_bitsOf (cw yX12_bitsOf cX12_bitsOf 3 (some .int))) := goodIn_3 tb_528 tb_529 tb_38 gc_X12_bitsOf
theorem hs_X12_bitsOf : yX12_bitsOf.cls ≠ "java/lang/invoke/MethodHandle" ∧ yX12_bitsOf.cls ≠ "java/lang/invoke/VarHandle" ∧ (parseMethodDescriptor yX12_bitsOf.desc).map (fun d => d.parameters.length) = some 1 := whs_X12_bitsOf
theorem dX12_isSo_128 : decode cX12_isSo 128 = .ok (.iconst 1, 1) := wdX12_isSo_128
theorem dX12_isSo_129 : decode cX12_isSo 129 = .ok (.if_icmp .le 7, 3) := wdX12_isSo_129
theorem dX12_isSo_136 : decode cX12_isSo 136 = .ok (.iconst 0, 1) := wdX12_isSo_136
theorem dX12_isSo_137 : decode cX12_isSo 137 = .ok (.ireturn, 1) := wdX12_isSo_137
theorem dX12_isSo_132 : decode cX12_isSo 132 = .ok (.iconst 1, 1) := wdX12_isSo_132
theorem dX12_isSo_133 : decode cX12_isSo 133 = .ok (.goto 4, 3) := wdX12_isSo_133
theorem dX12_isSo_138 : decode cX12_isSo 138 = .ok (.iload 4, 2) := wdX12_isSo_138
theorem dX12_isSo_140 : decode cX12_isSo 140 = .ok (.ifCond .ne 7, 3) := wdX12_isSo_140
theorem dX12_isSo_147 : decode cX12_isSo 147 = .ok (.iconst 0, 1) := wdX12_isSo_147
theorem dX12_isSo_148 : decode cX12_isSo 148 = .ok (.ireturn, 1) := wdX12_isSo_148
theorem dX12_isSo_143 : decode cX12_isSo 143 = .ok (.iconst 1, 1) := wdX12_isSo_143
theorem dX12_isSo_144 : decode cX12_isSo 144 = .ok (.goto 4, 3) := wdX12_isSo_144
theorem dX12_isSo_149 : decode cX12_isSo 149 = .ok (.iload_n 2, 1) := wdX12_isSo_149
theorem dX12_isSo_150 : decode cX12_isSo 150 = .ok (.iconst 1, 1) := wdX12_isSo_150
theorem dX12_isSo_151 : decode cX12_isSo 151 = .ok (.iadd, 1) := wdX12_isSo_151
theorem dX12_isSo_152 : decode cX12_isSo 152 = .ok (.aload_n 0, 1) := wdX12_isSo_152
theorem dX12_isSo_153 : decode cX12_isSo 153 = .ok (.getfield 17, 3) := wdX12_isSo_153
theorem dX12_isSo_156 : decode cX12_isSo 156 = .ok (.iconst 0, 1) := wdX12_isSo_156
theorem dX12_isSo_157 : decode cX12_isSo 157 = .ok (.iaload, 1) := wdX12_isSo_157
theorem dX12_isSo_158 : decode cX12_isSo 158 = .ok (.if_icmp .ge 24, 3) := wdX12_isSo_158
theorem dX12_isSo_182 : decode cX12_isSo 182 = .ok (.iconst 0, 1) := wdX12_isSo_182
theorem dX12_isSo_183 : decode cX12_isSo 183 = .ok (.ireturn, 1) := wdX12_isSo_183
theorem dX12_isSo_161 : decode cX12_isSo 161 = .ok (.aload_n 0, 1) := wdX12_isSo_161
theorem dX12_isSo_162 : decode cX12_isSo 162 = .ok (.getfield 17, 3) := wdX12_isSo_162
theorem dX12_isSo_165 : decode cX12_isSo 165 = .ok (.iconst 1, 1) := wdX12_isSo_165
theorem dX12_isSo_166 : decode cX12_isSo 166 = .ok (.iload_n 2, 1) := wdX12_isSo_166
theorem dX12_isSo_167 : decode cX12_isSo 167 = .ok (.iadd, 1) := wdX12_isSo_167
theorem dX12_isSo_168 : decode cX12_isSo 168 = .ok (.iconst 1, 1) := wdX12_isSo_168
theorem dX12_isSo_169 : decode cX12_isSo 169 = .ok (.iadd, 1) := wdX12_isSo_169
theorem dX12_isSo_170 : decode cX12_isSo 170 = .ok (.iaload, 1) := wdX12_isSo_170
theorem dX12_isSo_171 : decode cX12_isSo 171 = .ok (.iload_n 3, 1) := wdX12_isSo_171
theorem dX12_isSo_172 : decode cX12_isSo 172 = .ok (.invokestatic 79, 3) := wdX12_isSo_172
theorem tk_X12_fits : Cond.code yX12_fits cX12_fits 2 (some .boolean) ∈ TB := wtk_X12_fits
theorem gc_X12_fits : GoodIn TB (cw yX12_fits cX12_fits 2 (some .boolean)) := goodIn_c2 tk_X12_fits
theorem tb_530 : Cond.methodLink "ToneLinesModel" 79 yX12_fits ∈ TB := wtb_112
theorem tb_531 : Cond.static yX12_fits ∈ TB := wtb_113
theorem gs_X12_79 : GoodIn TB (va_wsS RX12 79 yX12_fits (cw yX12_fits cX12_fits 2 (some .boolean))) := goodIn_3 tb_530 tb_531 tb_38 gc_X12_fits
theorem hs_X12_fits : yX12_fits.cls ≠ "java/lang/invoke/MethodHandle" ∧ yX12_fits.cls ≠ "java/lang/invoke/VarHandle" ∧ (parseMethodDescriptor yX12_fits.desc).map (fun d => d.parameters.length) = some 2 := whs_X12_fits
theorem dX12_isSo_175 : decode cX12_isSo 175 = .ok (.ifCond .eq 7, 3) := wdX12_isSo_175
theorem dX12_isSo_178 : decode cX12_isSo 178 = .ok (.iconst 1, 1) := wdX12_isSo_178
theorem dX12_isSo_179 : decode cX12_isSo 179 = .ok (.goto 4, 3) := wdX12_isSo_179
theorem dX12_isSo_184 : decode cX12_isSo 184 = .ok (.iload_n 2, 1) := wdX12_isSo_184
theorem dX12_isSo_185 : decode cX12_isSo 185 = .ok (.ifCond .le 24, 3) := wdX12_isSo_185
theorem dX12_isSo_209 : decode cX12_isSo 209 = .ok (.iconst 0, 1) := wdX12_isSo_209
theorem dX12_isSo_210 : decode cX12_isSo 210 = .ok (.ireturn, 1) := wdX12_isSo_210
theorem dX12_isSo_188 : decode cX12_isSo 188 = .ok (.aload_n 0, 1) := wdX12_isSo_188
theorem dX12_isSo_189 : decode cX12_isSo 189 = .ok (.getfield 17, 3) := wdX12_isSo_189
theorem dX12_isSo_192 : decode cX12_isSo 192 = .ok (.iconst 1, 1) := wdX12_isSo_192
theorem dX12_isSo_193 : decode cX12_isSo 193 = .ok (.iload_n 2, 1) := wdX12_isSo_193
theorem dX12_isSo_194 : decode cX12_isSo 194 = .ok (.iadd, 1) := wdX12_isSo_194
theorem dX12_isSo_195 : decode cX12_isSo 195 = .ok (.iconst 1, 1) := wdX12_isSo_195
theorem dX12_isSo_196 : decode cX12_isSo 196 = .ok (.isub, 1) := wdX12_isSo_196
theorem dX12_isSo_197 : decode cX12_isSo 197 = .ok (.iaload, 1) := wdX12_isSo_197
theorem dX12_isSo_198 : decode cX12_isSo 198 = .ok (.iload_n 3, 1) := wdX12_isSo_198
theorem dX12_isSo_199 : decode cX12_isSo 199 = .ok (.invokestatic 79, 3) := wdX12_isSo_199
theorem dX12_isSo_202 : decode cX12_isSo 202 = .ok (.ifCond .eq 7, 3) := wdX12_isSo_202
theorem dX12_isSo_205 : decode cX12_isSo 205 = .ok (.iconst 1, 1) := wdX12_isSo_205
theorem dX12_isSo_206 : decode cX12_isSo 206 = .ok (.goto 4, 3) := wdX12_isSo_206
set_option maxRecDepth 4000 in
theorem q_X12_isSo {l : Launch} {D : va_G} {B : Nat} {cy : Nat → ClassId} {M : Mem} {x : Int} (hx : (-2147483648) ≤ x ∧ x ≤ 2147483647) {t : Int} (ht : 0 ≤ t ∧ t ≤ 11) {x1 : Int} (hx1 : (-2147483648) ≤ x1 ∧ x1 ≤ 2147483647) (hI : IvR M) : Ci l D B cy yX12_isSo cX12_isSo 5 (some .boolean) 2 42 [.ref (B + 146), .int (zI x), .int (zI t), .int (zI x1)] M (fun r M1 => ∃ z : Int, r = zI z ∧ (0 ≤ z ∧ z ≤ 1) ∧ M1 = M) := by
  refine s_anyQ (by decide) (Nat.le_of_ble_eq_true rfl) ?_
  intro p e s m args below meth c ls Q F hr hlocks hQ w hl
  have F : CallFix p m c cX12_isSo 5 s args TB RX12 := F
  have hx := F.1
  have hb := F.2.1
  have hl : lv_has ls 5 [(0, .ref (B + 146)), (1, .int (zI x)), (2, .int (zI t)), (3, .int (zI x1))] := hl
  refine lv_aload_n hx hb dX12_isSo_0 rfl (lv_at hl 0 rfl) ?_
  refine f_12_2 F w (a := 146) rfl tb_45 dX12_isSo_1 ?_
  refine lv_bipush (v := zI 13) hx hb dX12_isSo_4 (by decide) ?_
  refine lv_iload_n hx hb dX12_isSo_6 rfl (lv_at hl 2 rfl) ?_
  refine z_iadd (z := (t + 13)) hx hb dX12_isSo_7 (by omega) ?_
  refine g_iald F w (a := 148) rfl (j := (13 + Int.toNat t)) (ix_l (t := t) (by omega) (by omega)) (by omega) dX12_isSo_8 ?_
  obtain ⟨z1, bz1, ez1⟩ := IvR.ld (k := (13 + Int.toNat t)) hI (wiv_l (a := 148) (k := (13 + Int.toNat t)) (by omega) (by omega)) (show 146 ≤ 148 ∧ 148 < 159 by decide)
  refine r_val ez1 ?_
  refine lv_istore (lv' := [(4, .int (zI z1)), (0, .ref (B + 146)), (1, .int (zI x)), (2, .int (zI t)), (3, .int (zI x1))]) hx hb dX12_isSo_9 hl (by decide) rfl (fun ls hl => ?_)
  refine lv_iload_n hx hb dX12_isSo_11 rfl (lv_at hl 2 rfl) ?_
  rcases (show x = 0 ∨ x = 1 ∨ x = 2 ∨ x = 3 ∨ x = 4 ∨ x = 5 ∨ (x ≠ 0 ∧ x ≠ 1 ∧ x ≠ 2 ∧ x ≠ 3 ∧ x ≠ 4 ∧ x ≠ 5) by omega) with c2 | c2 | c2 | c2 | c2 | c2 | c2
  · refine r_val (v := zI 0) (congrArg zI c2) ?_
    refine lv_tableIn (tgt := 52) hx hb dX12_isSo_12 (by decide) (by decide) (off := 40) rfl (by decide) ?_
    refine lv_iload hx hb dX12_isSo_52 (lv_at hl 0 rfl) ?_
    refine k_Si F w (As := [.int (zI z1)]) (rest := []) (q_firstOf (x := z1) ⟨by omega, by omega⟩ ) gs_X12_63 hs_X12_firstOf ⟨(Nat.le_of_ble_eq_true rfl), (Nat.le_of_ble_eq_true rfl)⟩ hl.1 rfl (Nat.le_of_ble_eq_true rfl) ⟨Nat.zero_le _, Nat.zero_le _⟩ dX12_isSo_54 (fun r3 N4 H locs hp w => ?_)
    obtain ⟨hrz5, hMz5⟩ := hp
    rw [hMz5] at w
    obtain ⟨z5, bz5, xz5, xcz5, ez5⟩ := low2_ex z1 (by omega)
    refine r_val (hrz5.trans ez5) ?_
    refine z_if_ne (tgt := 64) hx hb (by omega) dX12_isSo_57 (by decide) (fun c6 => ?_) (fun c6 => ?_)
    · refine lv_iconst (v := zI 0) hx hb dX12_isSo_64 rfl ?_
      rw [hQ]
      exact e_z F w hr hlocks (nar_z (by omega)) ⟨_, rfl, ⟨by omega, by omega⟩, rfl⟩ dX12_isSo_65
    · refine lv_iconst (v := zI 1) hx hb dX12_isSo_60 rfl ?_
      refine lv_goto (tgt := 65) hx hb dX12_isSo_61 (by decide) ?_
      rw [hQ]
      exact e_z F w hr hlocks (nar_z (by omega)) ⟨_, rfl, ⟨by omega, by omega⟩, rfl⟩ dX12_isSo_65
  · refine r_val (v := zI 1) (congrArg zI c2) ?_
    refine lv_tableIn (tgt := 66) hx hb dX12_isSo_12 (by decide) (by decide) (off := 54) rfl (by decide) ?_
    refine lv_iload hx hb dX12_isSo_66 (lv_at hl 0 rfl) ?_
    refine z_if_eq (tgt := 92) hx hb (by omega) dX12_isSo_68 (by decide) (fun c7 => ?_) (fun c7 => ?_)
    · refine lv_iconst (v := zI 0) hx hb dX12_isSo_92 rfl ?_
      rw [hQ]
      exact e_z F w hr hlocks (nar_z (by omega)) ⟨_, rfl, ⟨by omega, by omega⟩, rfl⟩ dX12_isSo_93
    · refine lv_iload hx hb dX12_isSo_71 (lv_at hl 0 rfl) ?_
      refine k_Si F w (As := [.int (zI z1)]) (rest := []) (q_lastOf (x := z1) ⟨by omega, by omega⟩ ) gs_X12_59 hs_X12_lastOf ⟨(Nat.le_of_ble_eq_true rfl), (Nat.le_of_ble_eq_true rfl)⟩ hl.1 rfl (Nat.le_of_ble_eq_true rfl) ⟨Nat.zero_le _, Nat.zero_le _⟩ dX12_isSo_73 (fun r8 N9 H locs hp w => ?_)
      obtain ⟨hrz10, hMz10⟩ := hp
      rw [hMz10] at w
      obtain ⟨z10, bz10, xz10, xcz10, ez10⟩ := hig2_ex z1 (by omega)
      refine r_val (hrz10.trans ez10) ?_
      refine lv_aload_n hx hb dX12_isSo_76 rfl (lv_at hl 1 rfl) ?_
      refine f_12_2 F w (a := 146) rfl tb_45 dX12_isSo_77 ?_
      refine lv_bipush (v := zI 25) hx hb dX12_isSo_80 (by decide) ?_
      refine g_iald F w (a := 148) rfl (j := 25) ⟨by decide, by decide⟩ (by omega) dX12_isSo_82 ?_
      obtain ⟨z11, bz11, ez11⟩ := IvR.ld (k := 25) hI (show ivr 148 25 = (0, 12) from rfl) (show 146 ≤ 148 ∧ 148 < 159 by decide)
      refine r_val ez11 ?_
      refine lv_iconst (v := zI 1) hx hb dX12_isSo_83 rfl ?_
      refine z_isub (z := (z11 - 1)) hx hb dX12_isSo_84 (by omega) ?_
      refine z_icmp_ne (tgt := 92) hx hb (by omega) (by omega) dX12_isSo_85 (by decide) (fun c12 => ?_) (fun c12 => ?_)
      · refine lv_iconst (v := zI 0) hx hb dX12_isSo_92 rfl ?_
        rw [hQ]
        exact e_z F w hr hlocks (nar_z (by omega)) ⟨_, rfl, ⟨by omega, by omega⟩, rfl⟩ dX12_isSo_93
      · refine lv_iconst (v := zI 1) hx hb dX12_isSo_88 rfl ?_
        refine lv_goto (tgt := 93) hx hb dX12_isSo_89 (by decide) ?_
        rw [hQ]
        exact e_z F w hr hlocks (nar_z (by omega)) ⟨_, rfl, ⟨by omega, by omega⟩, rfl⟩ dX12_isSo_93
  · refine r_val (v := zI 2) (congrArg zI c2) ?_
    refine lv_tableIn (tgt := 94) hx hb dX12_isSo_12 (by decide) (by decide) (off := 82) rfl (by decide) ?_
    refine lv_iload hx hb dX12_isSo_94 (lv_at hl 0 rfl) ?_
    refine z_if_eq (tgt := 121) hx hb (by omega) dX12_isSo_96 (by decide) (fun c13 => ?_) (fun c13 => ?_)
    · refine lv_iconst (v := zI 0) hx hb dX12_isSo_121 rfl ?_
      rw [hQ]
      exact e_z F w hr hlocks (nar_z (by omega)) ⟨_, rfl, ⟨by omega, by omega⟩, rfl⟩ dX12_isSo_122
    · refine lv_aload_n hx hb dX12_isSo_99 rfl (lv_at hl 1 rfl) ?_
      refine f_12_2 F w (a := 146) rfl tb_45 dX12_isSo_100 ?_
      refine lv_bipush (v := zI 26) hx hb dX12_isSo_103 (by decide) ?_
      refine g_iald F w (a := 148) rfl (j := 26) ⟨by decide, by decide⟩ (by omega) dX12_isSo_105 ?_
      obtain ⟨z14, bz14, ez14⟩ := IvR.ld (k := 26) hI (show ivr 148 26 = (0, 4095) from rfl) (show 146 ≤ 148 ∧ 148 < 159 by decide)
      refine r_val ez14 ?_
      refine lv_iload hx hb dX12_isSo_106 (lv_at hl 0 rfl) ?_
      refine k_Si F w (As := [.int (zI z1)]) (rest := [.int (zI z14)]) (q_lastOf (x := z1) ⟨by omega, by omega⟩ ) gs_X12_59 hs_X12_lastOf ⟨(Nat.le_of_ble_eq_true rfl), (Nat.le_of_ble_eq_true rfl)⟩ hl.1 rfl (Nat.le_of_ble_eq_true rfl) ⟨Nat.zero_le _, Nat.zero_le _⟩ dX12_isSo_108 (fun r15 N16 H locs hp w => ?_)
      obtain ⟨hrz17, hMz17⟩ := hp
      rw [hMz17] at w
      obtain ⟨z17, bz17, xz17, xcz17, ez17⟩ := hig2_ex z1 (by omega)
      refine r_val (hrz17.trans ez17) ?_
      refine k_Si F w (As := [.int (zI z14), .int (zI z17)]) (rest := []) (q_X12_isIn (x := z14) ⟨by omega, by omega⟩ (x1 := z17) ⟨by omega, by omega⟩  hI) gs_X12_51 hs_X12_isIn ⟨(Nat.le_of_ble_eq_true rfl), (Nat.le_of_ble_eq_true rfl)⟩ hl.1 rfl (Nat.le_of_ble_eq_true rfl) ⟨Nat.zero_le _, Nat.zero_le _⟩ dX12_isSo_111 (fun r18 N19 H locs hp w => ?_)
      obtain ⟨z20, rfl, bz20, hMN19⟩ := hp
      rw [hMN19] at w
      refine z_if_eq (tgt := 121) hx hb (by omega) dX12_isSo_114 (by decide) (fun c21 => ?_) (fun c21 => ?_)
      · refine lv_iconst (v := zI 0) hx hb dX12_isSo_121 rfl ?_
        rw [hQ]
        exact e_z F w hr hlocks (nar_z (by omega)) ⟨_, rfl, ⟨by omega, by omega⟩, rfl⟩ dX12_isSo_122
      · refine lv_iconst (v := zI 1) hx hb dX12_isSo_117 rfl ?_
        refine lv_goto (tgt := 122) hx hb dX12_isSo_118 (by decide) ?_
        rw [hQ]
        exact e_z F w hr hlocks (nar_z (by omega)) ⟨_, rfl, ⟨by omega, by omega⟩, rfl⟩ dX12_isSo_122
  · refine r_val (v := zI 3) (congrArg zI c2) ?_
    refine lv_tableIn (tgt := 123) hx hb dX12_isSo_12 (by decide) (by decide) (off := 111) rfl (by decide) ?_
    refine lv_iload hx hb dX12_isSo_123 (lv_at hl 0 rfl) ?_
    refine k_Si F w (As := [.int (zI z1)]) (rest := []) (q_bitsOf (x := z1) ⟨by omega, by omega⟩ ) gs_X12_76 hs_X12_bitsOf ⟨(Nat.le_of_ble_eq_true rfl), (Nat.le_of_ble_eq_true rfl)⟩ hl.1 rfl (Nat.le_of_ble_eq_true rfl) ⟨Nat.zero_le _, Nat.zero_le _⟩ dX12_isSo_125 (fun r22 N23 H locs hp w => ?_)
    obtain ⟨hrz24, hMz24⟩ := hp
    rw [hMz24] at w
    obtain ⟨z24, bz24, xz24, ez24⟩ := pop2_ex z1 (by omega)
    refine r_val (hrz24.trans ez24) ?_
    refine lv_iconst (v := zI 1) hx hb dX12_isSo_128 rfl ?_
    refine z_icmp_le (tgt := 136) hx hb (by omega) (by omega) dX12_isSo_129 (by decide) (fun c25 => ?_) (fun c25 => ?_)
    · refine lv_iconst (v := zI 0) hx hb dX12_isSo_136 rfl ?_
      rw [hQ]
      exact e_z F w hr hlocks (nar_z (by omega)) ⟨_, rfl, ⟨by omega, by omega⟩, rfl⟩ dX12_isSo_137
    · refine lv_iconst (v := zI 1) hx hb dX12_isSo_132 rfl ?_
      refine lv_goto (tgt := 137) hx hb dX12_isSo_133 (by decide) ?_
      rw [hQ]
      exact e_z F w hr hlocks (nar_z (by omega)) ⟨_, rfl, ⟨by omega, by omega⟩, rfl⟩ dX12_isSo_137
  · refine r_val (v := zI 4) (congrArg zI c2) ?_
    refine lv_tableIn (tgt := 138) hx hb dX12_isSo_12 (by decide) (by decide) (off := 126) rfl (by decide) ?_
    refine lv_iload hx hb dX12_isSo_138 (lv_at hl 0 rfl) ?_
    refine z_if_ne (tgt := 147) hx hb (by omega) dX12_isSo_140 (by decide) (fun c26 => ?_) (fun c26 => ?_)
    · refine lv_iconst (v := zI 0) hx hb dX12_isSo_147 rfl ?_
      rw [hQ]
      exact e_z F w hr hlocks (nar_z (by omega)) ⟨_, rfl, ⟨by omega, by omega⟩, rfl⟩ dX12_isSo_148
    · refine lv_iconst (v := zI 1) hx hb dX12_isSo_143 rfl ?_
      refine lv_goto (tgt := 148) hx hb dX12_isSo_144 (by decide) ?_
      rw [hQ]
      exact e_z F w hr hlocks (nar_z (by omega)) ⟨_, rfl, ⟨by omega, by omega⟩, rfl⟩ dX12_isSo_148
  · refine r_val (v := zI 5) (congrArg zI c2) ?_
    refine lv_tableIn (tgt := 149) hx hb dX12_isSo_12 (by decide) (by decide) (off := 137) rfl (by decide) ?_
    refine lv_iload_n hx hb dX12_isSo_149 rfl (lv_at hl 3 rfl) ?_
    refine lv_iconst (v := zI 1) hx hb dX12_isSo_150 rfl ?_
    refine z_iadd (z := (t + 1)) hx hb dX12_isSo_151 (by omega) ?_
    refine lv_aload_n hx hb dX12_isSo_152 rfl (lv_at hl 1 rfl) ?_
    refine f_12_2 F w (a := 146) rfl tb_45 dX12_isSo_153 ?_
    refine lv_iconst (v := zI 0) hx hb dX12_isSo_156 rfl ?_
    refine g_iald F w (a := 148) rfl (j := 0) ⟨by decide, by decide⟩ (by omega) dX12_isSo_157 ?_
    obtain ⟨z27, bz27, ez27⟩ := IvR.ld (k := 0) hI (show ivr 148 0 = (0, 12) from rfl) (show 146 ≤ 148 ∧ 148 < 159 by decide)
    refine r_val ez27 ?_
    refine z_icmp_ge (tgt := 182) hx hb (by omega) (by omega) dX12_isSo_158 (by decide) (fun c28 => ?_) (fun c28 => ?_)
    · refine lv_iconst (v := zI 0) hx hb dX12_isSo_182 rfl ?_
      rw [hQ]
      exact e_z F w hr hlocks (nar_z (by omega)) ⟨_, rfl, ⟨by omega, by omega⟩, rfl⟩ dX12_isSo_183
    · refine lv_aload_n hx hb dX12_isSo_161 rfl (lv_at hl 1 rfl) ?_
      refine f_12_2 F w (a := 146) rfl tb_45 dX12_isSo_162 ?_
      refine lv_iconst (v := zI 1) hx hb dX12_isSo_165 rfl ?_
      refine lv_iload_n hx hb dX12_isSo_166 rfl (lv_at hl 3 rfl) ?_
      refine z_iadd (z := (t + 1)) hx hb dX12_isSo_167 (by omega) ?_
      refine lv_iconst (v := zI 1) hx hb dX12_isSo_168 rfl ?_
      refine z_iadd (z := (t + 2)) hx hb dX12_isSo_169 (by omega) ?_
      refine g_iald F w (a := 148) rfl (j := (Int.toNat (t + 2))) (ix_z (by omega) (by omega)) (by omega) dX12_isSo_170 ?_
      obtain ⟨z29, bz29, ez29⟩ := IvR.ld (k := (Int.toNat (t + 2))) hI (wiv_k (a := 148) (k := (Int.toNat (t + 2))) (by omega) (by omega)) (show 146 ≤ 148 ∧ 148 < 159 by decide)
      refine r_val ez29 ?_
      refine lv_iload_n hx hb dX12_isSo_171 rfl (lv_at hl 4 rfl) ?_
      refine k_Si F w (As := [.int (zI z29), .int (zI x1)]) (rest := []) (q_X12_fits (x := z29) ⟨by omega, by omega⟩ (x1 := x1) ⟨by omega, by omega⟩  hI) gs_X12_79 hs_X12_fits ⟨(Nat.le_of_ble_eq_true rfl), (Nat.le_of_ble_eq_true rfl)⟩ hl.1 rfl (Nat.le_of_ble_eq_true rfl) ⟨Nat.zero_le _, Nat.zero_le _⟩ dX12_isSo_172 (fun r30 N31 H locs hp w => ?_)
      obtain ⟨z32, rfl, bz32, hMN31⟩ := hp
      rw [hMN31] at w
      refine z_if_eq (tgt := 182) hx hb (by omega) dX12_isSo_175 (by decide) (fun c33 => ?_) (fun c33 => ?_)
      · refine lv_iconst (v := zI 0) hx hb dX12_isSo_182 rfl ?_
        rw [hQ]
        exact e_z F w hr hlocks (nar_z (by omega)) ⟨_, rfl, ⟨by omega, by omega⟩, rfl⟩ dX12_isSo_183
      · refine lv_iconst (v := zI 1) hx hb dX12_isSo_178 rfl ?_
        refine lv_goto (tgt := 183) hx hb dX12_isSo_179 (by decide) ?_
        rw [hQ]
        exact e_z F w hr hlocks (nar_z (by omega)) ⟨_, rfl, ⟨by omega, by omega⟩, rfl⟩ dX12_isSo_183
  · refine lv_tableOut (tgt := 184) hx hb dX12_isSo_12 (by rw [zI_toInt (by omega)]; omega) (by decide) ?_
    refine lv_iload_n hx hb dX12_isSo_184 rfl (lv_at hl 3 rfl) ?_
    refine z_if_le (tgt := 209) hx hb (by omega) dX12_isSo_185 (by decide) (fun c34 => ?_) (fun c34 => ?_)
    · refine lv_iconst (v := zI 0) hx hb dX12_isSo_209 rfl ?_
      rw [hQ]
      exact e_z F w hr hlocks (nar_z (by omega)) ⟨_, rfl, ⟨by omega, by omega⟩, rfl⟩ dX12_isSo_210
    · refine lv_aload_n hx hb dX12_isSo_188 rfl (lv_at hl 1 rfl) ?_
      refine f_12_2 F w (a := 146) rfl tb_45 dX12_isSo_189 ?_
      refine lv_iconst (v := zI 1) hx hb dX12_isSo_192 rfl ?_
      refine lv_iload_n hx hb dX12_isSo_193 rfl (lv_at hl 3 rfl) ?_
      refine z_iadd (z := (t + 1)) hx hb dX12_isSo_194 (by omega) ?_
      refine lv_iconst (v := zI 1) hx hb dX12_isSo_195 rfl ?_
      refine z_isub (z := t) hx hb dX12_isSo_196 (by omega) ?_
      refine g_iald F w (a := 148) rfl (j := (Int.toNat t)) (ix_z (by omega) (by omega)) (by omega) dX12_isSo_197 ?_
      obtain ⟨z35, bz35, ez35⟩ := IvR.ld (k := (Int.toNat t)) hI (wiv_k (a := 148) (k := (Int.toNat t)) (by omega) (by omega)) (show 146 ≤ 148 ∧ 148 < 159 by decide)
      refine r_val ez35 ?_
      refine lv_iload_n hx hb dX12_isSo_198 rfl (lv_at hl 4 rfl) ?_
      refine k_Si F w (As := [.int (zI z35), .int (zI x1)]) (rest := []) (q_X12_fits (x := z35) ⟨by omega, by omega⟩ (x1 := x1) ⟨by omega, by omega⟩  hI) gs_X12_79 hs_X12_fits ⟨(Nat.le_of_ble_eq_true rfl), (Nat.le_of_ble_eq_true rfl)⟩ hl.1 rfl (Nat.le_of_ble_eq_true rfl) ⟨Nat.zero_le _, Nat.zero_le _⟩ dX12_isSo_199 (fun r36 N37 H locs hp w => ?_)
      obtain ⟨z38, rfl, bz38, hMN37⟩ := hp
      rw [hMN37] at w
      refine z_if_eq (tgt := 209) hx hb (by omega) dX12_isSo_202 (by decide) (fun c39 => ?_) (fun c39 => ?_)
      · refine lv_iconst (v := zI 0) hx hb dX12_isSo_209 rfl ?_
        rw [hQ]
        exact e_z F w hr hlocks (nar_z (by omega)) ⟨_, rfl, ⟨by omega, by omega⟩, rfl⟩ dX12_isSo_210
      · refine lv_iconst (v := zI 1) hx hb dX12_isSo_205 rfl ?_
        refine lv_goto (tgt := 210) hx hb dX12_isSo_206 (by decide) ?_
        rw [hQ]
        exact e_z F w hr hlocks (nar_z (by omega)) ⟨_, rfl, ⟨by omega, by omega⟩, rfl⟩ dX12_isSo_210
theorem dX12_passes_0 : decode cX12_passes 0 = .ok (.bipush 8, 2) := wdX12_passes_0
theorem dX12_passes_2 : decode cX12_passes 2 = .ok (.iload_n 1, 1) := wdX12_passes_2
theorem dX12_passes_3 : decode cX12_passes 3 = .ok (.imul, 1) := wdX12_passes_3
theorem dX12_passes_4 : decode cX12_passes 4 = .ok (.istore_n 3, 1) := wdX12_passes_4
theorem dX12_passes_5 : decode cX12_passes 5 = .ok (.aload_n 0, 1) := wdX12_passes_5
theorem dX12_passes_6 : decode cX12_passes 6 = .ok (.getfield 20, 3) := wdX12_passes_6
theorem tb_532 : Cond.fieldLink "ToneLinesModel" 20 "ToneLinesModel" "rule" "[I" ∈ TB := rtb_164
theorem dX12_passes_9 : decode cX12_passes 9 = .ok (.iload_n 3, 1) := wdX12_passes_9
theorem dX12_passes_10 : decode cX12_passes 10 = .ok (.iconst 5, 1) := wdX12_passes_10
theorem dX12_passes_11 : decode cX12_passes 11 = .ok (.iadd, 1) := wdX12_passes_11
theorem dX12_passes_12 : decode cX12_passes 12 = .ok (.iaload, 1) := wdX12_passes_12
theorem dX12_passes_13 : decode cX12_passes 13 = .ok (.bipush (-2), 2) := wdX12_passes_13
theorem dX12_passes_15 : decode cX12_passes 15 = .ok (.if_icmp .ne 5, 3) := wdX12_passes_15
theorem dX12_passes_20 : decode cX12_passes 20 = .ok (.aload_n 0, 1) := wdX12_passes_20
theorem dX12_passes_21 : decode cX12_passes 21 = .ok (.aload_n 0, 1) := wdX12_passes_21
theorem dX12_passes_22 : decode cX12_passes 22 = .ok (.getfield 20, 3) := wdX12_passes_22
theorem dX12_passes_25 : decode cX12_passes 25 = .ok (.iload_n 3, 1) := wdX12_passes_25
theorem dX12_passes_26 : decode cX12_passes 26 = .ok (.iconst 5, 1) := wdX12_passes_26
theorem dX12_passes_27 : decode cX12_passes 27 = .ok (.iadd, 1) := wdX12_passes_27
theorem dX12_passes_28 : decode cX12_passes 28 = .ok (.iaload, 1) := wdX12_passes_28
theorem dX12_passes_29 : decode cX12_passes 29 = .ok (.iload_n 2, 1) := wdX12_passes_29
theorem dX12_passes_30 : decode cX12_passes 30 = .ok (.aload_n 0, 1) := wdX12_passes_30
theorem dX12_passes_31 : decode cX12_passes 31 = .ok (.getfield 20, 3) := wdX12_passes_31
theorem dX12_passes_34 : decode cX12_passes 34 = .ok (.iload_n 3, 1) := wdX12_passes_34
theorem dX12_passes_35 : decode cX12_passes 35 = .ok (.bipush 7, 2) := wdX12_passes_35
theorem dX12_passes_37 : decode cX12_passes 37 = .ok (.iadd, 1) := wdX12_passes_37
theorem dX12_passes_38 : decode cX12_passes 38 = .ok (.iaload, 1) := wdX12_passes_38
theorem dX12_passes_39 : decode cX12_passes 39 = .ok (.invokevirtual 73, 3) := wdX12_passes_39
theorem tk_X12_isSo : Cond.code yX12_isSo cX12_isSo 5 (some .boolean) ∈ TB := wtk_X12_isSo
theorem gc_X12_isSo : GoodIn TB (cw yX12_isSo cX12_isSo 5 (some .boolean)) := goodIn_c2 tk_X12_isSo
theorem tb_533 : Cond.methodLink "ToneLinesModel" 73 yX12_isSo ∈ TB := wtb_115
theorem tb_534 : Cond.instanceMethod yX12_isSo ∈ TB := wtb_116
theorem tb_535 : Cond.selects "ToneLinesModel" yX12_isSo yX12_isSo ∈ TB := wtb_117
theorem gv_X12_73 : GoodIn TB (wsV RX12 73 RX12 yX12_isSo (cw yX12_isSo cX12_isSo 5 (some .boolean))) := goodIn_4 tb_533 tb_534 tb_535 tb_38 gc_X12_isSo
theorem hv_X12_isSo : yX12_isSo.cls = RX12 ∧ yX12_isSo.cls ≠ "java/lang/invoke/MethodHandle" ∧ yX12_isSo.cls ≠ "java/lang/invoke/VarHandle" ∧ (parseMethodDescriptor yX12_isSo.desc).map (fun d => d.parameters.length) = some 3 := whv_X12_isSo
theorem dX12_passes_42 : decode cX12_passes 42 = .ok (.aload_n 0, 1) := wdX12_passes_42
theorem dX12_passes_43 : decode cX12_passes 43 = .ok (.getfield 20, 3) := wdX12_passes_43
theorem dX12_passes_46 : decode cX12_passes 46 = .ok (.iload_n 3, 1) := wdX12_passes_46
theorem dX12_passes_47 : decode cX12_passes 47 = .ok (.bipush 6, 2) := wdX12_passes_47
theorem dX12_passes_49 : decode cX12_passes 49 = .ok (.iadd, 1) := wdX12_passes_49
theorem dX12_passes_50 : decode cX12_passes 50 = .ok (.iaload, 1) := wdX12_passes_50
theorem dX12_passes_51 : decode cX12_passes 51 = .ok (.iconst 1, 1) := wdX12_passes_51
theorem dX12_passes_52 : decode cX12_passes 52 = .ok (.if_icmp .ne 7, 3) := wdX12_passes_52
theorem dX12_passes_59 : decode cX12_passes 59 = .ok (.iconst 0, 1) := wdX12_passes_59
theorem dX12_passes_60 : decode cX12_passes 60 = .ok (.if_icmp .eq 7, 3) := wdX12_passes_60
theorem dX12_passes_67 : decode cX12_passes 67 = .ok (.iconst 0, 1) := wdX12_passes_67
theorem dX12_passes_68 : decode cX12_passes 68 = .ok (.ireturn, 1) := wdX12_passes_68
theorem dX12_passes_63 : decode cX12_passes 63 = .ok (.iconst 1, 1) := wdX12_passes_63
theorem dX12_passes_64 : decode cX12_passes 64 = .ok (.goto 4, 3) := wdX12_passes_64
theorem dX12_passes_55 : decode cX12_passes 55 = .ok (.iconst 1, 1) := wdX12_passes_55
theorem dX12_passes_56 : decode cX12_passes 56 = .ok (.goto 4, 3) := wdX12_passes_56
theorem dX12_passes_18 : decode cX12_passes 18 = .ok (.iconst 1, 1) := wdX12_passes_18
theorem dX12_passes_19 : decode cX12_passes 19 = .ok (.ireturn, 1) := wdX12_passes_19
set_option maxRecDepth 4000 in
theorem q_X12_passes {l : Launch} {D : va_G} {B : Nat} {cy : Nat → ClassId} {M : Mem} {x : Int} (hx : 0 ≤ x ∧ x ≤ 7) {t : Int} (ht : 0 ≤ t ∧ t ≤ 11) (hI : IvR M) : Ci l D B cy yX12_passes cX12_passes 4 (some .boolean) 3 66 [.ref (B + 146), .int (zI x), .int (zI t)] M (fun r M1 => ∃ z : Int, r = zI z ∧ (0 ≤ z ∧ z ≤ 1) ∧ M1 = M) := by
  refine s_anyQ (by decide) (Nat.le_of_ble_eq_true rfl) ?_
  intro p e s m args below meth c ls Q F hr hlocks hQ w hl
  have F : CallFix p m c cX12_passes 4 s args TB RX12 := F
  have hx := F.1
  have hb := F.2.1
  have hl : lv_has ls 4 [(0, .ref (B + 146)), (1, .int (zI x)), (2, .int (zI t))] := hl
  refine lv_bipush (v := zI 8) hx hb dX12_passes_0 (by decide) ?_
  refine lv_iload_n hx hb dX12_passes_2 rfl (lv_at hl 1 rfl) ?_
  refine z_imul (z := (8 * x)) hx hb dX12_passes_3 (by omega) ?_
  refine lv_istore_n (lv' := [(3, .int (zI (8 * x))), (0, .ref (B + 146)), (1, .int (zI x)), (2, .int (zI t))]) hx hb dX12_passes_4 rfl hl (by decide) rfl (fun ls hl => ?_)
  refine lv_aload_n hx hb dX12_passes_5 rfl (lv_at hl 1 rfl) ?_
  refine f_12_4 F w (a := 146) rfl tb_532 dX12_passes_6 ?_
  refine lv_iload_n hx hb dX12_passes_9 rfl (lv_at hl 0 rfl) ?_
  refine lv_iconst (v := zI 5) hx hb dX12_passes_10 rfl ?_
  refine z_iadd (z := ((8 * x) + 5)) hx hb dX12_passes_11 (by omega) ?_
  refine g_iald F w (a := 149) rfl (j := (Int.toNat ((8 * x) + 5))) (ix_z (by omega) (by omega)) (by omega) dX12_passes_12 ?_
  obtain ⟨z1, bz1, ez1⟩ := IvR.ld (k := (Int.toNat ((8 * x) + 5))) hI (show ivr 149 (Int.toNat ((8 * x) + 5)) = ((-99), 300) from rfl) (show 146 ≤ 149 ∧ 149 < 159 by decide)
  refine r_val ez1 ?_
  refine lv_bipush (v := zI (-2)) hx hb dX12_passes_13 (by decide) ?_
  refine z_icmp_ne (tgt := 20) hx hb (by omega) (by omega) dX12_passes_15 (by decide) (fun c2 => ?_) (fun c2 => ?_)
  · refine lv_aload_n hx hb dX12_passes_20 rfl (lv_at hl 1 rfl) ?_
    refine lv_aload_n hx hb dX12_passes_21 rfl (lv_at hl 1 rfl) ?_
    refine f_12_4 F w (a := 146) rfl tb_532 dX12_passes_22 ?_
    refine lv_iload_n hx hb dX12_passes_25 rfl (lv_at hl 0 rfl) ?_
    refine lv_iconst (v := zI 5) hx hb dX12_passes_26 rfl ?_
    refine z_iadd (z := ((8 * x) + 5)) hx hb dX12_passes_27 (by omega) ?_
    refine g_iald F w (a := 149) rfl (j := (Int.toNat ((8 * x) + 5))) (ix_z (by omega) (by omega)) (by omega) dX12_passes_28 ?_
    refine r_val (v := zI z1) (ez1) ?_
    refine lv_iload_n hx hb dX12_passes_29 rfl (lv_at hl 3 rfl) ?_
    refine lv_aload_n hx hb dX12_passes_30 rfl (lv_at hl 1 rfl) ?_
    refine f_12_4 F w (a := 146) rfl tb_532 dX12_passes_31 ?_
    refine lv_iload_n hx hb dX12_passes_34 rfl (lv_at hl 0 rfl) ?_
    refine lv_bipush (v := zI 7) hx hb dX12_passes_35 (by decide) ?_
    refine z_iadd (z := ((8 * x) + 7)) hx hb dX12_passes_37 (by omega) ?_
    refine g_iald F w (a := 149) rfl (j := (Int.toNat ((8 * x) + 7))) (ix_z (by omega) (by omega)) (by omega) dX12_passes_38 ?_
    obtain ⟨z3, bz3, ez3⟩ := IvR.ld (k := (Int.toNat ((8 * x) + 7))) hI (show ivr 149 (Int.toNat ((8 * x) + 7)) = ((-99), 300) from rfl) (show 146 ≤ 149 ∧ 149 < 159 by decide)
    refine r_val ez3 ?_
    refine k_Vi F w (As := [.int (zI z1), .int (zI t), .int (zI z3)]) (rest := []) (a := 146) (kd_lt (a := 146) (show kd 146 = (12, 0, 0) from rfl) (by decide)) (sh_12 rfl _ _) rfl (q_X12_isSo (x := z1) ⟨by omega, by omega⟩ (t := t) ⟨by omega, by omega⟩ (x1 := z3) ⟨by omega, by omega⟩  hI) gv_X12_73 hv_X12_isSo ⟨(Nat.le_of_ble_eq_true rfl), (Nat.le_of_ble_eq_true rfl)⟩ hl.1 rfl (Nat.le_of_ble_eq_true rfl) ⟨Nat.zero_le _, Nat.zero_le _⟩ dX12_passes_39 (fun r4 N5 H locs hp w => ?_)
    obtain ⟨z6, rfl, bz6, hMN5⟩ := hp
    rw [hMN5] at w
    refine lv_aload_n hx hb dX12_passes_42 rfl (lv_at hl 1 rfl) ?_
    refine f_12_4 F w (a := 146) rfl tb_532 dX12_passes_43 ?_
    refine lv_iload_n hx hb dX12_passes_46 rfl (lv_at hl 0 rfl) ?_
    refine lv_bipush (v := zI 6) hx hb dX12_passes_47 (by decide) ?_
    refine z_iadd (z := ((8 * x) + 6)) hx hb dX12_passes_49 (by omega) ?_
    refine g_iald F w (a := 149) rfl (j := (Int.toNat ((8 * x) + 6))) (ix_z (by omega) (by omega)) (by omega) dX12_passes_50 ?_
    obtain ⟨z7, bz7, ez7⟩ := IvR.ld (k := (Int.toNat ((8 * x) + 6))) hI (show ivr 149 (Int.toNat ((8 * x) + 6)) = ((-99), 300) from rfl) (show 146 ≤ 149 ∧ 149 < 159 by decide)
    refine r_val ez7 ?_
    refine lv_iconst (v := zI 1) hx hb dX12_passes_51 rfl ?_
    refine z_icmp_ne (tgt := 59) hx hb (by omega) (by omega) dX12_passes_52 (by decide) (fun c8 => ?_) (fun c8 => ?_)
    · refine lv_iconst (v := zI 0) hx hb dX12_passes_59 rfl ?_
      refine z_icmp_eq (tgt := 67) hx hb (by omega) (by omega) dX12_passes_60 (by decide) (fun c9 => ?_) (fun c9 => ?_)
      · refine lv_iconst (v := zI 0) hx hb dX12_passes_67 rfl ?_
        rw [hQ]
        exact e_z F w hr hlocks (nar_z (by omega)) ⟨_, rfl, ⟨by omega, by omega⟩, rfl⟩ dX12_passes_68
      · refine lv_iconst (v := zI 1) hx hb dX12_passes_63 rfl ?_
        refine lv_goto (tgt := 68) hx hb dX12_passes_64 (by decide) ?_
        rw [hQ]
        exact e_z F w hr hlocks (nar_z (by omega)) ⟨_, rfl, ⟨by omega, by omega⟩, rfl⟩ dX12_passes_68
    · refine lv_iconst (v := zI 1) hx hb dX12_passes_55 rfl ?_
      refine lv_goto (tgt := 60) hx hb dX12_passes_56 (by decide) ?_
      refine z_icmp_eq (tgt := 67) hx hb (by omega) (by omega) dX12_passes_60 (by decide) (fun c10 => ?_) (fun c10 => ?_)
      · refine lv_iconst (v := zI 0) hx hb dX12_passes_67 rfl ?_
        rw [hQ]
        exact e_z F w hr hlocks (nar_z (by omega)) ⟨_, rfl, ⟨by omega, by omega⟩, rfl⟩ dX12_passes_68
      · refine lv_iconst (v := zI 1) hx hb dX12_passes_63 rfl ?_
        refine lv_goto (tgt := 68) hx hb dX12_passes_64 (by decide) ?_
        rw [hQ]
        exact e_z F w hr hlocks (nar_z (by omega)) ⟨_, rfl, ⟨by omega, by omega⟩, rfl⟩ dX12_passes_68
  · refine lv_iconst (v := zI 1) hx hb dX12_passes_18 rfl ?_
    rw [hQ]
    exact e_z F w hr hlocks (nar_z (by omega)) ⟨_, rfl, ⟨by omega, by omega⟩, rfl⟩ dX12_passes_19
set_option maxRecDepth 4000 in
theorem q_X12_links {l : Launch} {D : va_G} {B : Nat} {cy : Nat → ClassId} {M : Mem} {y : Int} (hy : 0 ≤ y ∧ y ≤ 11) {x : Int} (hx : 0 ≤ x ∧ x ≤ 1) (hI : IvR M) : Cv l D B cy yX12_links cX12_links 5 3 66 [.ref (B + 146), .int (zI y), .int (zI x)] M (fun M1 => IvR M1 ∧ Fr (fun b9 k9 => (b9 = 146 ∧ k9 = 3) ∨ (b9 = 148 ∧ 13 ≤ k9 ∧ k9 ≤ 24)) M1 M) := by
  refine s_anyQ (by decide) (Nat.le_of_ble_eq_true rfl) ?_
  intro p e s m args below meth c ls Q F hr hlocks hQ w hl
  have F : CallFix p m c cX12_links 5 s args TB RX12 := F
  have hx := F.1
  have hb := F.2.1
  have hl : lv_has ls 5 [(0, .ref (B + 146)), (1, .int (zI y)), (2, .int (zI x))] := hl
  have hF : Fr (fun b9 k9 => (b9 = 146 ∧ k9 = 3) ∨ (b9 = 148 ∧ 13 ≤ k9 ∧ k9 ≤ 24)) M M := Fr.rf
  refine lv_aload_n hx hb dX12_links_0 rfl (lv_at hl 0 rfl) ?_
  refine lv_iload_n hx hb dX12_links_1 rfl (lv_at hl 1 rfl) ?_
  refine k_Vi F w (As := [.int (zI y)]) (rest := []) (a := 146) (kd_lt (a := 146) (show kd 146 = (12, 0, 0) from rfl) (by decide)) (sh_12 rfl _ _) rfl (q_X12_isBare (y := y) ⟨by omega, by omega⟩  hI) gv_X12_82 hv_X12_isBare ⟨(Nat.le_of_ble_eq_true rfl), (Nat.le_of_ble_eq_true rfl)⟩ hl.1 rfl (Nat.le_of_ble_eq_true rfl) ⟨Nat.zero_le _, Nat.zero_le _⟩ dX12_links_2 (fun r1 N2 H locs hp w => ?_)
  obtain ⟨z3, rfl, bz3, hMN2⟩ := hp
  rw [hMN2] at w
  refine z_if_ne (tgt := 9) hx hb (by omega) dX12_links_5 (by decide) (fun c4 => ?_) (fun c4 => ?_)
  · refine lv_iconst (v := zI 0) hx hb dX12_links_9 rfl ?_
    refine lv_istore_n (lv' := [(3, .int (zI 0)), (0, .ref (B + 146)), (1, .int (zI y)), (2, .int (zI x))]) hx hb dX12_links_10 rfl hl (by decide) rfl (fun ls hl => ?_)
    have lp11 : ∀ (f : Nat) (v3_11 : Int), (0 ≤ v3_11 ∧ v3_11 ≤ 12) → (Int.toNat (12 - v3_11) < f) → ∀ (H : Heap) (locs : List Loc) (ls : Array Slot), Wd D B cy s s.heap M H locs → lv_has ls 5 [(3, .int (zI v3_11)), (0, .ref (B + 146)), (1, .int (zI y)), (2, .int (zI x))] → W p l e (rmm 3 66) s m args below meth c H locs 0 0 Q (F0 m 11 ls []) := by
      intro f
      induction f with
      | zero => intros; omega
      | succ f ih11 =>
        intro v3_11  iv3_11 hf11 H locs ls w hl
        refine lv_iload_n hx hb dX12_links_11 rfl (lv_at hl 0 rfl) ?_
        refine lv_aload_n hx hb dX12_links_12 rfl (lv_at hl 1 rfl) ?_
        refine f_12_2 F w (a := 146) rfl tb_45 dX12_links_13 ?_
        refine lv_iconst (v := zI 0) hx hb dX12_links_16 rfl ?_
        refine g_iald F w (a := 148) rfl (j := 0) ⟨by decide, by decide⟩ (by omega) dX12_links_17 ?_
        obtain ⟨z5, bz5, ez5⟩ := IvR.ld (k := 0) hI (show ivr 148 0 = (0, 12) from rfl) (show 146 ≤ 148 ∧ 148 < 159 by decide)
        refine r_val ez5 ?_
        refine z_icmp_ge (tgt := 84) hx hb (by omega) (by omega) dX12_links_18 (by decide) (fun c6 => ?_) (fun c6 => ?_)
        · rw [hQ]
          exact e_v F w hr hlocks ⟨hI, hF⟩ dX12_links_84
        · refine lv_iload_n hx hb dX12_links_21 rfl (lv_at hl 3 rfl) ?_
          refine z_if_eq (tgt := 38) hx hb (by omega) dX12_links_22 (by decide) (fun c7 => ?_) (fun c7 => ?_)
          · refine lv_iload_n hx hb dX12_links_38 rfl (lv_at hl 0 rfl) ?_
            refine lv_istore (lv' := [(4, .int (zI v3_11)), (3, .int (zI v3_11)), (0, .ref (B + 146)), (1, .int (zI y)), (2, .int (zI x))]) hx hb dX12_links_39 hl (by decide) rfl (fun ls hl => ?_)
            refine lv_aload_n hx hb dX12_links_41 rfl (lv_at hl 2 rfl) ?_
            refine f_12_2 F w (a := 146) rfl tb_45 dX12_links_42 ?_
            refine lv_bipush (v := zI 13) hx hb dX12_links_45 (by decide) ?_
            refine lv_iload hx hb dX12_links_47 (lv_at hl 0 rfl) ?_
            refine z_iadd (z := (v3_11 + 13)) hx hb dX12_links_49 (by omega) ?_
            refine g_iald F w (a := 148) rfl (j := (13 + Int.toNat v3_11)) (ix_l (t := v3_11) (by omega) (by omega)) (by omega) dX12_links_50 ?_
            obtain ⟨z8, bz8, ez8⟩ := IvR.ld (k := (13 + Int.toNat v3_11)) hI (wiv_l (a := 148) (k := (13 + Int.toNat v3_11)) (by omega) (by omega)) (show 146 ≤ 148 ∧ 148 < 159 by decide)
            refine r_val ez8 ?_
            refine z_if_ne (tgt := 78) hx hb (by omega) dX12_links_51 (by decide) (fun c9 => ?_) (fun c9 => ?_)
            · refine z_iinc (v := (v3_11 + 1)) (lv' := [(3, .int (zI (v3_11 + 1))), (4, .int (zI v3_11)), (0, .ref (B + 146)), (1, .int (zI y)), (2, .int (zI x))]) hx hb dX12_links_78 hl (k := 1) rfl (by omega) (by decide) rfl (fun ls hl => ?_)
              refine lv_goto (tgt := 11) hx hb dX12_links_81 (by decide) ?_
              exact ih11 (v3_11 + 1) (by omega)     (by omega) _ _ _ w (lv_sub hl [0, 2, 3, 4] rfl)
            · refine lv_aload_n hx hb dX12_links_54 rfl (lv_at hl 2 rfl) ?_
              refine f_12_2 F w (a := 146) rfl tb_45 dX12_links_55 ?_
              refine lv_iload hx hb dX12_links_58 (lv_at hl 0 rfl) ?_
              refine lv_iload_n hx hb dX12_links_60 rfl (lv_at hl 3 rfl) ?_
              refine k_Si F w (As := [.ref (B + 148), .int (zI v3_11), .int (zI y)]) (rest := []) (q_isOpen_148 (t := v3_11) ⟨by omega, by omega⟩ (y := y) ⟨by omega, by omega⟩ (nn := z5) (ez5) ⟨by omega, by omega⟩ (by omega) hI) gs_X12_86 hs_X12_isOpen ⟨(Nat.le_of_ble_eq_true rfl), (Nat.le_of_ble_eq_true rfl)⟩ hl.1 rfl (Nat.le_of_ble_eq_true rfl) ⟨Nat.zero_le _, Nat.zero_le _⟩ dX12_links_61 (fun r10 N11 H locs hp w => ?_)
              obtain ⟨z12, rfl, bz12, xz12, hMN11⟩ := hp
              rw [hMN11] at w
              refine z_if_ne (tgt := 70) hx hb (by omega) dX12_links_64 (by decide) (fun c13 => ?_) (fun c13 => ?_)
              · refine lv_aload_n hx hb dX12_links_70 rfl (lv_at hl 2 rfl) ?_
                refine lv_iload hx hb dX12_links_71 (lv_at hl 0 rfl) ?_
                refine lv_iload_n hx hb dX12_links_73 rfl (lv_at hl 3 rfl) ?_
                refine k_Vv F w (As := [.int (zI v3_11), .int (zI y)]) (rest := []) (a := 146) (kd_lt (a := 146) (show kd 146 = (12, 0, 0) from rfl) (by decide)) (sh_12 rfl _ _) rfl (q_X12_comes (t := v3_11) ⟨by omega, by omega⟩ (y := y) ⟨by omega, by omega⟩ (Or.resolve_left xz12 (by omega)) hI) gv_X12_90 hv_X12_comes ⟨(Nat.le_of_ble_eq_true rfl), (Nat.le_of_ble_eq_true rfl)⟩ hl.1 rfl (Nat.le_of_ble_eq_true rfl) ⟨Nat.zero_le _, Nat.zero_le _⟩ dX12_links_74 (fun N15 H locs hp w => ?_)
                obtain ⟨hIN15, hFN15⟩ := hp
                have hGN15 := Fr.tr hF hFN15 (S := (fun b9 k9 => (b9 = 146 ∧ k9 = 3) ∨ (b9 = 148 ∧ 13 ≤ k9 ∧ k9 ≤ 24))) (fun b k h => by (try dsimp only at h ⊢); rcases h with ⟨rfl, rfl⟩ | ⟨rfl, q1, q2⟩ <;> first | decide | omega)
                have kn17 : N15.1 148 0 = zI z5 := (hFN15 148 0 (by first | decide | (dsimp only; first | done | decide | omega) | omega)).trans (ez5)
                rw [hQ]
                exact e_v F w hr hlocks ⟨hIN15, hGN15⟩ dX12_links_77
              · refine lv_goto (tgt := 78) hx hb dX12_links_67 (by decide) ?_
                refine z_iinc (v := (v3_11 + 1)) (lv' := [(3, .int (zI (v3_11 + 1))), (4, .int (zI v3_11)), (0, .ref (B + 146)), (1, .int (zI y)), (2, .int (zI x))]) hx hb dX12_links_78 hl (k := 1) rfl (by omega) (by decide) rfl (fun ls hl => ?_)
                refine lv_goto (tgt := 11) hx hb dX12_links_81 (by decide) ?_
                exact ih11 (v3_11 + 1) (by omega)     (by omega) _ _ _ w (lv_sub hl [0, 2, 3, 4] rfl)
          · refine lv_aload_n hx hb dX12_links_25 rfl (lv_at hl 1 rfl) ?_
            refine f_12_2 F w (a := 146) rfl tb_45 dX12_links_26 ?_
            refine lv_iconst (v := zI 0) hx hb dX12_links_29 rfl ?_
            refine g_iald F w (a := 148) rfl (j := 0) ⟨by decide, by decide⟩ (by omega) dX12_links_30 ?_
            refine r_val (v := zI z5) (ez5) ?_
            refine lv_iconst (v := zI 1) hx hb dX12_links_31 rfl ?_
            refine z_isub (z := (z5 - 1)) hx hb dX12_links_32 (by omega) ?_
            refine lv_iload_n hx hb dX12_links_33 rfl (lv_at hl 0 rfl) ?_
            refine z_isub (z := ((z5 - 1) - v3_11)) hx hb dX12_links_34 (by omega) ?_
            refine lv_goto (tgt := 39) hx hb dX12_links_35 (by decide) ?_
            refine lv_istore (lv' := [(4, .int (zI ((z5 - 1) - v3_11))), (3, .int (zI v3_11)), (0, .ref (B + 146)), (1, .int (zI y)), (2, .int (zI x))]) hx hb dX12_links_39 hl (by decide) rfl (fun ls hl => ?_)
            refine lv_aload_n hx hb dX12_links_41 rfl (lv_at hl 2 rfl) ?_
            refine f_12_2 F w (a := 146) rfl tb_45 dX12_links_42 ?_
            refine lv_bipush (v := zI 13) hx hb dX12_links_45 (by decide) ?_
            refine lv_iload hx hb dX12_links_47 (lv_at hl 0 rfl) ?_
            refine z_iadd (z := (((z5 - 1) - v3_11) + 13)) hx hb dX12_links_49 (by omega) ?_
            refine g_iald F w (a := 148) rfl (j := (13 + Int.toNat ((((z5 - 1) - v3_11) + 13) - 13))) (ix_l (t := ((((z5 - 1) - v3_11) + 13) - 13)) (by omega) (by omega)) (by omega) dX12_links_50 ?_
            obtain ⟨z18, bz18, ez18⟩ := IvR.ld (k := (13 + Int.toNat ((((z5 - 1) - v3_11) + 13) - 13))) hI (wiv_l (a := 148) (k := (13 + Int.toNat ((((z5 - 1) - v3_11) + 13) - 13))) (by omega) (by omega)) (show 146 ≤ 148 ∧ 148 < 159 by decide)
            refine r_val ez18 ?_
            refine z_if_ne (tgt := 78) hx hb (by omega) dX12_links_51 (by decide) (fun c19 => ?_) (fun c19 => ?_)
            · refine z_iinc (v := (v3_11 + 1)) (lv' := [(3, .int (zI (v3_11 + 1))), (4, .int (zI ((z5 - 1) - v3_11))), (0, .ref (B + 146)), (1, .int (zI y)), (2, .int (zI x))]) hx hb dX12_links_78 hl (k := 1) rfl (by omega) (by decide) rfl (fun ls hl => ?_)
              refine lv_goto (tgt := 11) hx hb dX12_links_81 (by decide) ?_
              exact ih11 (v3_11 + 1) (by omega)     (by omega) _ _ _ w (lv_sub hl [0, 2, 3, 4] rfl)
            · refine lv_aload_n hx hb dX12_links_54 rfl (lv_at hl 2 rfl) ?_
              refine f_12_2 F w (a := 146) rfl tb_45 dX12_links_55 ?_
              refine lv_iload hx hb dX12_links_58 (lv_at hl 0 rfl) ?_
              refine lv_iload_n hx hb dX12_links_60 rfl (lv_at hl 3 rfl) ?_
              refine k_Si F w (As := [.ref (B + 148), .int (zI ((z5 - 1) - v3_11)), .int (zI y)]) (rest := []) (q_isOpen_148 (t := ((z5 - 1) - v3_11)) ⟨by omega, by omega⟩ (y := y) ⟨by omega, by omega⟩ (nn := z5) (ez5) ⟨by omega, by omega⟩ (by omega) hI) gs_X12_86 hs_X12_isOpen ⟨(Nat.le_of_ble_eq_true rfl), (Nat.le_of_ble_eq_true rfl)⟩ hl.1 rfl (Nat.le_of_ble_eq_true rfl) ⟨Nat.zero_le _, Nat.zero_le _⟩ dX12_links_61 (fun r20 N21 H locs hp w => ?_)
              obtain ⟨z22, rfl, bz22, xz22, hMN21⟩ := hp
              rw [hMN21] at w
              refine z_if_ne (tgt := 70) hx hb (by omega) dX12_links_64 (by decide) (fun c23 => ?_) (fun c23 => ?_)
              · refine lv_aload_n hx hb dX12_links_70 rfl (lv_at hl 2 rfl) ?_
                refine lv_iload hx hb dX12_links_71 (lv_at hl 0 rfl) ?_
                refine lv_iload_n hx hb dX12_links_73 rfl (lv_at hl 3 rfl) ?_
                refine k_Vv F w (As := [.int (zI ((z5 - 1) - v3_11)), .int (zI y)]) (rest := []) (a := 146) (kd_lt (a := 146) (show kd 146 = (12, 0, 0) from rfl) (by decide)) (sh_12 rfl _ _) rfl (q_X12_comes (t := ((z5 - 1) - v3_11)) ⟨by omega, by omega⟩ (y := y) ⟨by omega, by omega⟩ (Or.resolve_left xz22 (by omega)) hI) gv_X12_90 hv_X12_comes ⟨(Nat.le_of_ble_eq_true rfl), (Nat.le_of_ble_eq_true rfl)⟩ hl.1 rfl (Nat.le_of_ble_eq_true rfl) ⟨Nat.zero_le _, Nat.zero_le _⟩ dX12_links_74 (fun N25 H locs hp w => ?_)
                obtain ⟨hIN25, hFN25⟩ := hp
                have hGN25 := Fr.tr hF hFN25 (S := (fun b9 k9 => (b9 = 146 ∧ k9 = 3) ∨ (b9 = 148 ∧ 13 ≤ k9 ∧ k9 ≤ 24))) (fun b k h => by (try dsimp only at h ⊢); rcases h with ⟨rfl, rfl⟩ | ⟨rfl, q1, q2⟩ <;> first | decide | omega)
                have kn27 : N25.1 148 0 = zI z5 := (hFN25 148 0 (by first | decide | (dsimp only; first | done | decide | omega) | omega)).trans (ez5)
                rw [hQ]
                exact e_v F w hr hlocks ⟨hIN25, hGN25⟩ dX12_links_77
              · refine lv_goto (tgt := 78) hx hb dX12_links_67 (by decide) ?_
                refine z_iinc (v := (v3_11 + 1)) (lv' := [(3, .int (zI (v3_11 + 1))), (4, .int (zI ((z5 - 1) - v3_11))), (0, .ref (B + 146)), (1, .int (zI y)), (2, .int (zI x))]) hx hb dX12_links_78 hl (k := 1) rfl (by omega) (by decide) rfl (fun ls hl => ?_)
                refine lv_goto (tgt := 11) hx hb dX12_links_81 (by decide) ?_
                exact ih11 (v3_11 + 1) (by omega)     (by omega) _ _ _ w (lv_sub hl [0, 2, 3, 4] rfl)
    exact lp11 _ 0 (by omega) (Nat.lt_succ_self _) _ _ _ w (lv_sub hl [0, 1, 2, 3] rfl)
  · rw [hQ]
    exact e_v F w hr hlocks ⟨hI, hF⟩ dX12_links_8
set_option maxRecDepth 4000 in
theorem q_X12_steps {l : Launch} {D : va_G} {B : Nat} {cy : Nat → ClassId} {M : Mem} {t : Int} (ht : 0 ≤ t ∧ t ≤ 11) {x : Int} (hx : 0 ≤ x ∧ x ≤ 1) {nn : Int} (hgnn : M.1 148 0 = zI nn) (hnn : 0 ≤ nn ∧ nn ≤ 12) (hpre0 : t < nn) (hI : IvR M) : Ci l D B cy yX12_steps cX12_steps 5 (some .boolean) 3 66 [.ref (B + 146), .int (zI t), .int (zI x)] M (fun r M1 => ∃ z : Int, r = zI z ∧ (0 ≤ z ∧ z ≤ 1) ∧ IvR M1 ∧ Fr (fun b9 k9 => (b9 = 146 ∧ k9 = 3) ∨ (b9 = 148 ∧ 13 ≤ k9 ∧ k9 ≤ 24)) M1 M) := by
  refine s_anyQ (by decide) (Nat.le_of_ble_eq_true rfl) ?_
  intro p e s m args below meth c ls Q F hr hlocks hQ w hl
  have F : CallFix p m c cX12_steps 5 s args TB RX12 := F
  have hx := F.1
  have hb := F.2.1
  have hl : lv_has ls 5 [(0, .ref (B + 146)), (1, .int (zI t)), (2, .int (zI x))] := hl
  have hF : Fr (fun b9 k9 => (b9 = 146 ∧ k9 = 3) ∨ (b9 = 148 ∧ 13 ≤ k9 ∧ k9 ≤ 24)) M M := Fr.rf
  refine lv_aload_n hx hb dX12_steps_0 rfl (lv_at hl 0 rfl) ?_
  refine f_12_2 F w (a := 146) rfl tb_45 dX12_steps_1 ?_
  refine lv_bipush (v := zI 13) hx hb dX12_steps_4 (by decide) ?_
  refine lv_iload_n hx hb dX12_steps_6 rfl (lv_at hl 1 rfl) ?_
  refine z_iadd (z := (t + 13)) hx hb dX12_steps_7 (by omega) ?_
  refine g_iald F w (a := 148) rfl (j := (13 + Int.toNat t)) (ix_l (t := t) (by omega) (by omega)) (by omega) dX12_steps_8 ?_
  obtain ⟨z1, bz1, ez1⟩ := IvR.ld (k := (13 + Int.toNat t)) hI (wiv_l (a := 148) (k := (13 + Int.toNat t)) (by omega) (by omega)) (show 146 ≤ 148 ∧ 148 < 159 by decide)
  refine r_val ez1 ?_
  refine lv_istore_n (lv' := [(3, .int (zI z1)), (0, .ref (B + 146)), (1, .int (zI t)), (2, .int (zI x))]) hx hb dX12_steps_9 rfl hl (by decide) rfl (fun ls hl => ?_)
  refine lv_iload_n hx hb dX12_steps_10 rfl (lv_at hl 3 rfl) ?_
  refine z_if_eq (tgt := 23) hx hb (by omega) dX12_steps_11 (by decide) (fun c2 => ?_) (fun c2 => ?_)
  · refine lv_iload_n hx hb dX12_steps_23 rfl (lv_at hl 0 rfl) ?_
    refine k_Si F w (As := [.int (zI z1)]) (rest := []) (q_lastOf (x := z1) ⟨by omega, by omega⟩ ) gs_X12_59 hs_X12_lastOf ⟨(Nat.le_of_ble_eq_true rfl), (Nat.le_of_ble_eq_true rfl)⟩ hl.1 rfl (Nat.le_of_ble_eq_true rfl) ⟨Nat.zero_le _, Nat.zero_le _⟩ dX12_steps_24 (fun r3 N4 H locs hp w => ?_)
    obtain ⟨hrz5, hMz5⟩ := hp
    rw [hMz5] at w
    obtain ⟨z5, bz5, xz5, xcz5, ez5⟩ := hig2_ex z1 (by omega)
    refine r_val (hrz5.trans ez5) ?_
    refine lv_iconst (v := zI 1) hx hb dX12_steps_27 rfl ?_
    refine z_iadd (z := (z5 + 1)) hx hb dX12_steps_28 (by omega) ?_
    refine lv_istore (lv' := [(4, .int (zI (z5 + 1))), (3, .int (zI z1)), (0, .ref (B + 146)), (1, .int (zI t)), (2, .int (zI x))]) hx hb dX12_steps_29 hl (by decide) rfl (fun ls hl => ?_)
    refine lv_aload_n hx hb dX12_steps_31 rfl (lv_at hl 2 rfl) ?_
    refine f_12_2 F w (a := 146) rfl tb_45 dX12_steps_32 ?_
    refine lv_iload hx hb dX12_steps_35 (lv_at hl 0 rfl) ?_
    refine k_Si F w (As := [.ref (B + 148), .int (zI (z5 + 1))]) (rest := []) (q_X12_isSyllable_148 (t := (z5 + 1)) ⟨by omega, by omega⟩  hI) gs_X12_94 hs_X12_isSyllable ⟨(Nat.le_of_ble_eq_true rfl), (Nat.le_of_ble_eq_true rfl)⟩ hl.1 rfl (Nat.le_of_ble_eq_true rfl) ⟨Nat.zero_le _, Nat.zero_le _⟩ dX12_steps_37 (fun r6 N7 H locs hp w => ?_)
    obtain ⟨z8, rfl, bz8, xz8, hMN7⟩ := hp
    rw [hMN7] at w
    refine z_if_eq (tgt := 91) hx hb (by omega) dX12_steps_40 (by decide) (fun c9 => ?_) (fun c9 => ?_)
    · refine lv_iconst (v := zI 0) hx hb dX12_steps_91 rfl ?_
      rw [hQ]
      exact e_z F w hr hlocks (nar_z (by omega)) ⟨_, rfl, ⟨by omega, by omega⟩, hI, hF⟩ dX12_steps_92
    · refine lv_aload_n hx hb dX12_steps_43 rfl (lv_at hl 2 rfl) ?_
      refine lv_iload hx hb dX12_steps_44 (lv_at hl 0 rfl) ?_
      refine k_Vi F w (As := [.int (zI (z5 + 1))]) (rest := []) (a := 146) (kd_lt (a := 146) (show kd 146 = (12, 0, 0) from rfl) (by decide)) (sh_12 rfl _ _) rfl (q_X12_isBare (y := (z5 + 1)) ⟨by omega, by omega⟩  hI) gv_X12_82 hv_X12_isBare ⟨(Nat.le_of_ble_eq_true rfl), (Nat.le_of_ble_eq_true rfl)⟩ hl.1 rfl (Nat.le_of_ble_eq_true rfl) ⟨Nat.zero_le _, Nat.zero_le _⟩ dX12_steps_46 (fun r10 N11 H locs hp w => ?_)
      obtain ⟨z12, rfl, bz12, hMN11⟩ := hp
      rw [hMN11] at w
      refine z_if_eq (tgt := 91) hx hb (by omega) dX12_steps_49 (by decide) (fun c13 => ?_) (fun c13 => ?_)
      · refine lv_iconst (v := zI 0) hx hb dX12_steps_91 rfl ?_
        rw [hQ]
        exact e_z F w hr hlocks (nar_z (by omega)) ⟨_, rfl, ⟨by omega, by omega⟩, hI, hF⟩ dX12_steps_92
      · refine lv_aload_n hx hb dX12_steps_52 rfl (lv_at hl 2 rfl) ?_
        refine f_12_2 F w (a := 146) rfl tb_45 dX12_steps_53 ?_
        refine lv_iload_n hx hb dX12_steps_56 rfl (lv_at hl 3 rfl) ?_
        refine lv_iload hx hb dX12_steps_57 (lv_at hl 0 rfl) ?_
        refine k_Si F w (As := [.ref (B + 148), .int (zI t), .int (zI (z5 + 1))]) (rest := []) (q_isOpen_148 (t := t) ⟨by omega, by omega⟩ (y := (z5 + 1)) ⟨by omega, by omega⟩ (nn := nn) (hgnn) ⟨by omega, by omega⟩ (by omega) hI) gs_X12_86 hs_X12_isOpen ⟨(Nat.le_of_ble_eq_true rfl), (Nat.le_of_ble_eq_true rfl)⟩ hl.1 rfl (Nat.le_of_ble_eq_true rfl) ⟨Nat.zero_le _, Nat.zero_le _⟩ dX12_steps_59 (fun r14 N15 H locs hp w => ?_)
        obtain ⟨z16, rfl, bz16, xz16, hMN15⟩ := hp
        rw [hMN15] at w
        refine z_if_eq (tgt := 91) hx hb (by omega) dX12_steps_62 (by decide) (fun c17 => ?_) (fun c17 => ?_)
        · refine lv_iconst (v := zI 0) hx hb dX12_steps_91 rfl ?_
          rw [hQ]
          exact e_z F w hr hlocks (nar_z (by omega)) ⟨_, rfl, ⟨by omega, by omega⟩, hI, hF⟩ dX12_steps_92
        · refine lv_aload_n hx hb dX12_steps_65 rfl (lv_at hl 2 rfl) ?_
          refine f_12_2 F w (a := 146) rfl tb_45 dX12_steps_66 ?_
          refine lv_bipush (v := zI 27) hx hb dX12_steps_69 (by decide) ?_
          refine g_iald F w (a := 148) rfl (j := 27) ⟨by decide, by decide⟩ (by omega) dX12_steps_71 ?_
          obtain ⟨z18, bz18, ez18⟩ := IvR.ld (k := 27) hI (show ivr 148 27 = (0, 4095) from rfl) (show 146 ≤ 148 ∧ 148 < 159 by decide)
          refine r_val ez18 ?_
          refine lv_iload_n hx hb dX12_steps_72 rfl (lv_at hl 4 rfl) ?_
          refine z_if_eq (tgt := 83) hx hb (by omega) dX12_steps_73 (by decide) (fun c19 => ?_) (fun c19 => False.elim (by omega))
          refine lv_iload hx hb dX12_steps_83 (lv_at hl 0 rfl) ?_
          refine k_Si F w (As := [.int (zI z18), .int (zI (z5 + 1))]) (rest := []) (q_X12_isIn (x := z18) ⟨by omega, by omega⟩ (x1 := (z5 + 1)) ⟨by omega, by omega⟩  hI) gs_X12_51 hs_X12_isIn ⟨(Nat.le_of_ble_eq_true rfl), (Nat.le_of_ble_eq_true rfl)⟩ hl.1 rfl (Nat.le_of_ble_eq_true rfl) ⟨Nat.zero_le _, Nat.zero_le _⟩ dX12_steps_85 (fun r20 N21 H locs hp w => ?_)
          obtain ⟨z22, rfl, bz22, hMN21⟩ := hp
          rw [hMN21] at w
          refine z_if_eq (tgt := 93) hx hb (by omega) dX12_steps_88 (by decide) (fun c23 => ?_) (fun c23 => ?_)
          · refine lv_aload_n hx hb dX12_steps_93 rfl (lv_at hl 2 rfl) ?_
            refine lv_iload_n hx hb dX12_steps_94 rfl (lv_at hl 3 rfl) ?_
            refine lv_iload hx hb dX12_steps_95 (lv_at hl 0 rfl) ?_
            refine k_Vv F w (As := [.int (zI t), .int (zI (z5 + 1))]) (rest := []) (a := 146) (kd_lt (a := 146) (show kd 146 = (12, 0, 0) from rfl) (by decide)) (sh_12 rfl _ _) rfl (q_X12_comes (t := t) ⟨by omega, by omega⟩ (y := (z5 + 1)) ⟨by omega, by omega⟩ (Or.resolve_left xz16 (by omega)) hI) gv_X12_90 hv_X12_comes ⟨(Nat.le_of_ble_eq_true rfl), (Nat.le_of_ble_eq_true rfl)⟩ hl.1 rfl (Nat.le_of_ble_eq_true rfl) ⟨Nat.zero_le _, Nat.zero_le _⟩ dX12_steps_97 (fun N25 H locs hp w => ?_)
            obtain ⟨hIN25, hFN25⟩ := hp
            have hGN25 := Fr.tr hF hFN25 (S := (fun b9 k9 => (b9 = 146 ∧ k9 = 3) ∨ (b9 = 148 ∧ 13 ≤ k9 ∧ k9 ≤ 24))) (fun b k h => by (try dsimp only at h ⊢); rcases h with ⟨rfl, rfl⟩ | ⟨rfl, q1, q2⟩ <;> first | decide | omega)
            have kn27 : N25.1 148 0 = zI nn := (hFN25 148 0 (by first | decide | (dsimp only; first | done | decide | omega) | omega)).trans (hgnn)
            have kn28 : N25.1 148 27 = zI z18 := (hFN25 148 27 (by first | decide | (dsimp only; first | done | decide | omega) | omega)).trans (ez18)
            refine lv_iconst (v := zI 1) hx hb dX12_steps_100 rfl ?_
            rw [hQ]
            exact e_z F w hr hlocks (nar_z (by omega)) ⟨_, rfl, ⟨by omega, by omega⟩, hIN25, hGN25⟩ dX12_steps_101
          · refine lv_iconst (v := zI 0) hx hb dX12_steps_91 rfl ?_
            rw [hQ]
            exact e_z F w hr hlocks (nar_z (by omega)) ⟨_, rfl, ⟨by omega, by omega⟩, hI, hF⟩ dX12_steps_92
  · refine lv_iload_n hx hb dX12_steps_14 rfl (lv_at hl 0 rfl) ?_
    refine k_Si F w (As := [.int (zI z1)]) (rest := []) (q_firstOf (x := z1) ⟨by omega, by omega⟩ ) gs_X12_63 hs_X12_firstOf ⟨(Nat.le_of_ble_eq_true rfl), (Nat.le_of_ble_eq_true rfl)⟩ hl.1 rfl (Nat.le_of_ble_eq_true rfl) ⟨Nat.zero_le _, Nat.zero_le _⟩ dX12_steps_15 (fun r29 N30 H locs hp w => ?_)
    obtain ⟨hrz31, hMz31⟩ := hp
    rw [hMz31] at w
    obtain ⟨z31, bz31, xz31, xcz31, ez31⟩ := low2_ex z1 (by omega)
    refine r_val (hrz31.trans ez31) ?_
    refine lv_iconst (v := zI 1) hx hb dX12_steps_18 rfl ?_
    refine z_isub (z := (z31 - 1)) hx hb dX12_steps_19 (by omega) ?_
    refine lv_goto (tgt := 29) hx hb dX12_steps_20 (by decide) ?_
    refine lv_istore (lv' := [(4, .int (zI (z31 - 1))), (3, .int (zI z1)), (0, .ref (B + 146)), (1, .int (zI t)), (2, .int (zI x))]) hx hb dX12_steps_29 hl (by decide) rfl (fun ls hl => ?_)
    refine lv_aload_n hx hb dX12_steps_31 rfl (lv_at hl 2 rfl) ?_
    refine f_12_2 F w (a := 146) rfl tb_45 dX12_steps_32 ?_
    refine lv_iload hx hb dX12_steps_35 (lv_at hl 0 rfl) ?_
    refine k_Si F w (As := [.ref (B + 148), .int (zI (z31 - 1))]) (rest := []) (q_X12_isSyllable_148 (t := (z31 - 1)) ⟨by omega, by omega⟩  hI) gs_X12_94 hs_X12_isSyllable ⟨(Nat.le_of_ble_eq_true rfl), (Nat.le_of_ble_eq_true rfl)⟩ hl.1 rfl (Nat.le_of_ble_eq_true rfl) ⟨Nat.zero_le _, Nat.zero_le _⟩ dX12_steps_37 (fun r32 N33 H locs hp w => ?_)
    obtain ⟨z34, rfl, bz34, xz34, hMN33⟩ := hp
    rw [hMN33] at w
    refine z_if_eq (tgt := 91) hx hb (by omega) dX12_steps_40 (by decide) (fun c35 => ?_) (fun c35 => ?_)
    · refine lv_iconst (v := zI 0) hx hb dX12_steps_91 rfl ?_
      rw [hQ]
      exact e_z F w hr hlocks (nar_z (by omega)) ⟨_, rfl, ⟨by omega, by omega⟩, hI, hF⟩ dX12_steps_92
    · refine lv_aload_n hx hb dX12_steps_43 rfl (lv_at hl 2 rfl) ?_
      refine lv_iload hx hb dX12_steps_44 (lv_at hl 0 rfl) ?_
      refine k_Vi F w (As := [.int (zI (z31 - 1))]) (rest := []) (a := 146) (kd_lt (a := 146) (show kd 146 = (12, 0, 0) from rfl) (by decide)) (sh_12 rfl _ _) rfl (q_X12_isBare (y := (z31 - 1)) ⟨by omega, by omega⟩  hI) gv_X12_82 hv_X12_isBare ⟨(Nat.le_of_ble_eq_true rfl), (Nat.le_of_ble_eq_true rfl)⟩ hl.1 rfl (Nat.le_of_ble_eq_true rfl) ⟨Nat.zero_le _, Nat.zero_le _⟩ dX12_steps_46 (fun r36 N37 H locs hp w => ?_)
      obtain ⟨z38, rfl, bz38, hMN37⟩ := hp
      rw [hMN37] at w
      refine z_if_eq (tgt := 91) hx hb (by omega) dX12_steps_49 (by decide) (fun c39 => ?_) (fun c39 => ?_)
      · refine lv_iconst (v := zI 0) hx hb dX12_steps_91 rfl ?_
        rw [hQ]
        exact e_z F w hr hlocks (nar_z (by omega)) ⟨_, rfl, ⟨by omega, by omega⟩, hI, hF⟩ dX12_steps_92
      · refine lv_aload_n hx hb dX12_steps_52 rfl (lv_at hl 2 rfl) ?_
        refine f_12_2 F w (a := 146) rfl tb_45 dX12_steps_53 ?_
        refine lv_iload_n hx hb dX12_steps_56 rfl (lv_at hl 3 rfl) ?_
        refine lv_iload hx hb dX12_steps_57 (lv_at hl 0 rfl) ?_
        refine k_Si F w (As := [.ref (B + 148), .int (zI t), .int (zI (z31 - 1))]) (rest := []) (q_isOpen_148 (t := t) ⟨by omega, by omega⟩ (y := (z31 - 1)) ⟨by omega, by omega⟩ (nn := nn) (hgnn) ⟨by omega, by omega⟩ (by omega) hI) gs_X12_86 hs_X12_isOpen ⟨(Nat.le_of_ble_eq_true rfl), (Nat.le_of_ble_eq_true rfl)⟩ hl.1 rfl (Nat.le_of_ble_eq_true rfl) ⟨Nat.zero_le _, Nat.zero_le _⟩ dX12_steps_59 (fun r40 N41 H locs hp w => ?_)
        obtain ⟨z42, rfl, bz42, xz42, hMN41⟩ := hp
        rw [hMN41] at w
        refine z_if_eq (tgt := 91) hx hb (by omega) dX12_steps_62 (by decide) (fun c43 => ?_) (fun c43 => ?_)
        · refine lv_iconst (v := zI 0) hx hb dX12_steps_91 rfl ?_
          rw [hQ]
          exact e_z F w hr hlocks (nar_z (by omega)) ⟨_, rfl, ⟨by omega, by omega⟩, hI, hF⟩ dX12_steps_92
        · refine lv_aload_n hx hb dX12_steps_65 rfl (lv_at hl 2 rfl) ?_
          refine f_12_2 F w (a := 146) rfl tb_45 dX12_steps_66 ?_
          refine lv_bipush (v := zI 27) hx hb dX12_steps_69 (by decide) ?_
          refine g_iald F w (a := 148) rfl (j := 27) ⟨by decide, by decide⟩ (by omega) dX12_steps_71 ?_
          obtain ⟨z44, bz44, ez44⟩ := IvR.ld (k := 27) hI (show ivr 148 27 = (0, 4095) from rfl) (show 146 ≤ 148 ∧ 148 < 159 by decide)
          refine r_val ez44 ?_
          refine lv_iload_n hx hb dX12_steps_72 rfl (lv_at hl 4 rfl) ?_
          refine z_if_eq (tgt := 83) hx hb (by omega) dX12_steps_73 (by decide) (fun c45 => False.elim (by omega)) (fun c45 => ?_)
          refine lv_iload hx hb dX12_steps_76 (lv_at hl 0 rfl) ?_
          refine lv_iconst (v := zI 1) hx hb dX12_steps_78 rfl ?_
          refine z_iadd (z := z31) hx hb dX12_steps_79 (by omega) ?_
          refine lv_goto (tgt := 85) hx hb dX12_steps_80 (by decide) ?_
          refine k_Si F w (As := [.int (zI z44), .int (zI z31)]) (rest := []) (q_X12_isIn (x := z44) ⟨by omega, by omega⟩ (x1 := z31) ⟨by omega, by omega⟩  hI) gs_X12_51 hs_X12_isIn ⟨(Nat.le_of_ble_eq_true rfl), (Nat.le_of_ble_eq_true rfl)⟩ hl.1 rfl (Nat.le_of_ble_eq_true rfl) ⟨Nat.zero_le _, Nat.zero_le _⟩ dX12_steps_85 (fun r46 N47 H locs hp w => ?_)
          obtain ⟨z48, rfl, bz48, hMN47⟩ := hp
          rw [hMN47] at w
          refine z_if_eq (tgt := 93) hx hb (by omega) dX12_steps_88 (by decide) (fun c49 => ?_) (fun c49 => ?_)
          · refine lv_aload_n hx hb dX12_steps_93 rfl (lv_at hl 2 rfl) ?_
            refine lv_iload_n hx hb dX12_steps_94 rfl (lv_at hl 3 rfl) ?_
            refine lv_iload hx hb dX12_steps_95 (lv_at hl 0 rfl) ?_
            refine k_Vv F w (As := [.int (zI t), .int (zI (z31 - 1))]) (rest := []) (a := 146) (kd_lt (a := 146) (show kd 146 = (12, 0, 0) from rfl) (by decide)) (sh_12 rfl _ _) rfl (q_X12_comes (t := t) ⟨by omega, by omega⟩ (y := (z31 - 1)) ⟨by omega, by omega⟩ (Or.resolve_left xz42 (by omega)) hI) gv_X12_90 hv_X12_comes ⟨(Nat.le_of_ble_eq_true rfl), (Nat.le_of_ble_eq_true rfl)⟩ hl.1 rfl (Nat.le_of_ble_eq_true rfl) ⟨Nat.zero_le _, Nat.zero_le _⟩ dX12_steps_97 (fun N51 H locs hp w => ?_)
            obtain ⟨hIN51, hFN51⟩ := hp
            have hGN51 := Fr.tr hF hFN51 (S := (fun b9 k9 => (b9 = 146 ∧ k9 = 3) ∨ (b9 = 148 ∧ 13 ≤ k9 ∧ k9 ≤ 24))) (fun b k h => by (try dsimp only at h ⊢); rcases h with ⟨rfl, rfl⟩ | ⟨rfl, q1, q2⟩ <;> first | decide | omega)
            have kn53 : N51.1 148 0 = zI nn := (hFN51 148 0 (by first | decide | (dsimp only; first | done | decide | omega) | omega)).trans (hgnn)
            have kn54 : N51.1 148 27 = zI z44 := (hFN51 148 27 (by first | decide | (dsimp only; first | done | decide | omega) | omega)).trans (ez44)
            refine lv_iconst (v := zI 1) hx hb dX12_steps_100 rfl ?_
            rw [hQ]
            exact e_z F w hr hlocks (nar_z (by omega)) ⟨_, rfl, ⟨by omega, by omega⟩, hIN51, hGN51⟩ dX12_steps_101
          · refine lv_iconst (v := zI 0) hx hb dX12_steps_91 rfl ?_
            rw [hQ]
            exact e_z F w hr hlocks (nar_z (by omega)) ⟨_, rfl, ⟨by omega, by omega⟩, hI, hF⟩ dX12_steps_92
set_option maxRecDepth 4000 in
theorem q_X12_spreads {l : Launch} {D : va_G} {B : Nat} {cy : Nat → ClassId} {M : Mem} {t : Int} (ht : 0 ≤ t ∧ t ≤ 11) {x : Int} (hx : 0 ≤ x ∧ x ≤ 1) {x1 : Int} (hx1 : (-99) ≤ x1 ∧ x1 ≤ 300) {nn : Int} (hgnn : M.1 148 0 = zI nn) (hnn : 0 ≤ nn ∧ nn ≤ 12) (hpre0 : t < nn) (hI : IvR M) : Cv l D B cy yX12_spreads cX12_spreads 6 4 90 [.ref (B + 146), .int (zI t), .int (zI x), .int (zI x1)] M (fun M1 => IvR M1 ∧ Fr (fun b9 k9 => (b9 = 146 ∧ k9 = 3) ∨ (b9 = 148 ∧ 13 ≤ k9 ∧ k9 ≤ 24)) M1 M) := by
  refine s_anyQ (by decide) (Nat.le_of_ble_eq_true rfl) ?_
  intro p e s m args below meth c ls Q F hr hlocks hQ w hl
  have F : CallFix p m c cX12_spreads 6 s args TB RX12 := F
  have hx := F.1
  have hb := F.2.1
  have hl : lv_has ls 6 [(0, .ref (B + 146)), (1, .int (zI t)), (2, .int (zI x)), (3, .int (zI x1))] := hl
  have hF : Fr (fun b9 k9 => (b9 = 146 ∧ k9 = 3) ∨ (b9 = 148 ∧ 13 ≤ k9 ∧ k9 ≤ 24)) M M := Fr.rf
  refine lv_iconst (v := zI 1) hx hb dX12_spreads_0 rfl ?_
  refine lv_istore (lv' := [(4, .int (zI 1)), (0, .ref (B + 146)), (1, .int (zI t)), (2, .int (zI x)), (3, .int (zI x1))]) hx hb dX12_spreads_1 hl (by decide) rfl (fun ls hl => ?_)
  refine lv_iconst (v := zI 0) hx hb dX12_spreads_3 rfl ?_
  refine lv_istore (lv' := [(5, .int (zI 0)), (4, .int (zI 1)), (0, .ref (B + 146)), (1, .int (zI t)), (2, .int (zI x)), (3, .int (zI x1))]) hx hb dX12_spreads_4 hl (by decide) rfl (fun ls hl => ?_)
  have lp6 : ∀ (f : Nat) (v5_6 : Int) (v4_6 : Int)  (NL6 : Mem), (0 ≤ v5_6 ∧ v5_6 ≤ 300) → (0 ≤ v4_6 ∧ v4_6 ≤ 1) → NL6.1 148 0 = zI nn → IvR NL6 → Fr (fun b9 k9 => (b9 = 146 ∧ k9 = 3) ∨ (b9 = 148 ∧ 13 ≤ k9 ∧ k9 ≤ 24)) NL6 M → (Int.toNat (300 - v5_6) < f) → ∀ (H : Heap) (locs : List Loc) (ls : Array Slot), Wd D B cy s s.heap NL6 H locs → lv_has ls 6 [(5, .int (zI v5_6)), (4, .int (zI v4_6)), (0, .ref (B + 146)), (1, .int (zI t)), (2, .int (zI x)), (3, .int (zI x1))] → W p l e (rmm 4 90) s m args below meth c H locs 0 0 Q (F0 m 6 ls []) := by
    intro f
    induction f with
    | zero => intros; omega
    | succ f ih6 =>
      intro v5_6 v4_6  NL6 iv5_6 iv4_6 eg148_0_6 hIL6 hFL6 hf6 H locs ls w hl
      refine lv_iload hx hb dX12_spreads_6 (lv_at hl 0 rfl) ?_
      refine lv_iload_n hx hb dX12_spreads_8 rfl (lv_at hl 5 rfl) ?_
      refine z_icmp_ge (tgt := 31) hx hb (by omega) (by omega) dX12_spreads_9 (by decide) (fun c1 => ?_) (fun c1 => ?_)
      · rw [hQ]
        exact e_v F w hr hlocks ⟨hIL6, hFL6⟩ dX12_spreads_31
      · refine lv_iload hx hb dX12_spreads_12 (lv_at hl 1 rfl) ?_
        refine z_if_eq (tgt := 31) hx hb (by omega) dX12_spreads_14 (by decide) (fun c2 => ?_) (fun c2 => ?_)
        · rw [hQ]
          exact e_v F w hr hlocks ⟨hIL6, hFL6⟩ dX12_spreads_31
        · refine lv_aload_n hx hb dX12_spreads_17 rfl (lv_at hl 2 rfl) ?_
          refine lv_iload_n hx hb dX12_spreads_18 rfl (lv_at hl 3 rfl) ?_
          refine lv_iload_n hx hb dX12_spreads_19 rfl (lv_at hl 4 rfl) ?_
          refine k_Vi F w (As := [.int (zI t), .int (zI x)]) (rest := []) (a := 146) (kd_lt (a := 146) (show kd 146 = (12, 0, 0) from rfl) (by decide)) (sh_12 rfl _ _) rfl (q_X12_steps (t := t) ⟨by omega, by omega⟩ (x := x) ⟨by omega, by omega⟩ (nn := nn) (eg148_0_6) ⟨by omega, by omega⟩ (by omega) hIL6) gv_X12_98 hv_X12_steps ⟨(Nat.le_of_ble_eq_true rfl), (Nat.le_of_ble_eq_true rfl)⟩ hl.1 rfl (Nat.le_of_ble_eq_true rfl) ⟨Nat.zero_le _, Nat.zero_le _⟩ dX12_spreads_20 (fun r3 N4 H locs hp w => ?_)
          obtain ⟨z5, rfl, bz5, hIN4, hFN4⟩ := hp
          have hGN4 := Fr.tr hFL6 hFN4 (S := (fun b9 k9 => (b9 = 146 ∧ k9 = 3) ∨ (b9 = 148 ∧ 13 ≤ k9 ∧ k9 ≤ 24))) (fun b k h => by (try dsimp only at h ⊢); rcases h with ⟨rfl, rfl⟩ | ⟨rfl, q1, q2⟩ <;> first | decide | omega)
          have kn6 : N4.1 148 0 = zI nn := (hFN4 148 0 (by first | decide | (dsimp only; first | done | decide | omega) | omega)).trans (eg148_0_6)
          refine lv_istore (lv' := [(4, .int (zI z5)), (5, .int (zI v5_6)), (0, .ref (B + 146)), (1, .int (zI t)), (2, .int (zI x)), (3, .int (zI x1))]) hx hb dX12_spreads_23 hl (by decide) rfl (fun ls hl => ?_)
          refine z_iinc (v := (v5_6 + 1)) (lv' := [(5, .int (zI (v5_6 + 1))), (4, .int (zI z5)), (0, .ref (B + 146)), (1, .int (zI t)), (2, .int (zI x)), (3, .int (zI x1))]) hx hb dX12_spreads_25 hl (k := 1) rfl (by omega) (by decide) rfl (fun ls hl => ?_)
          refine lv_goto (tgt := 6) hx hb dX12_spreads_28 (by decide) ?_
          exact ih6 (v5_6 + 1) z5 N4 (by omega) (by omega)  (kn6)  hIN4 hGN4 (by omega) _ _ _ w (lv_sub hl [0, 1, 2, 3, 4, 5] rfl)
  exact lp6 _ 0 1 M (by omega) (by omega) (hgnn) hI hF (Nat.lt_succ_self _) _ _ _ w (lv_sub hl [0, 1, 2, 3, 4, 5] rfl)
set_option maxRecDepth 4000 in
theorem q_X12_shifts {l : Launch} {D : va_G} {B : Nat} {cy : Nat → ClassId} {M : Mem} {t : Int} (ht : 0 ≤ t ∧ t ≤ 11) {x : Int} (hx : 0 ≤ x ∧ x ≤ 1) {nn : Int} (hgnn : M.1 148 0 = zI nn) (hnn : 0 ≤ nn ∧ nn ≤ 12) {ll : Int} (hgll : M.1 148 (13 + Int.toNat t) = zI ll) (hll : 0 ≤ ll ∧ ll ≤ 4095) (hpre0 : t < nn) (hpre1 : ll ≠ 0) (hI : IvR M) : Cv l D B cy yX12_shifts cX12_shifts 4 4 90 [.ref (B + 146), .int (zI t), .int (zI x)] M (fun M1 => IvR M1 ∧ Fr (fun b9 k9 => (b9 = 146 ∧ k9 = 3) ∨ (b9 = 148 ∧ 13 ≤ k9 ∧ k9 ≤ 24)) M1 M) := by
  refine s_anyQ (by decide) (Nat.le_of_ble_eq_true rfl) ?_
  intro p e s m args below meth c ls Q F hr hlocks hQ w hl
  have F : CallFix p m c cX12_shifts 4 s args TB RX12 := F
  have hx := F.1
  have hb := F.2.1
  have hl : lv_has ls 4 [(0, .ref (B + 146)), (1, .int (zI t)), (2, .int (zI x))] := hl
  have hF : Fr (fun b9 k9 => (b9 = 146 ∧ k9 = 3) ∨ (b9 = 148 ∧ 13 ≤ k9 ∧ k9 ≤ 24)) M M := Fr.rf
  refine lv_aload_n hx hb dX12_shifts_0 rfl (lv_at hl 0 rfl) ?_
  refine f_12_2 F w (a := 146) rfl tb_45 dX12_shifts_1 ?_
  refine lv_bipush (v := zI 13) hx hb dX12_shifts_4 (by decide) ?_
  refine lv_iload_n hx hb dX12_shifts_6 rfl (lv_at hl 1 rfl) ?_
  refine z_iadd (z := (t + 13)) hx hb dX12_shifts_7 (by omega) ?_
  refine g_iald F w (a := 148) rfl (j := (13 + Int.toNat t)) (ix_l (t := t) (by omega) (by omega)) (by omega) dX12_shifts_8 ?_
  refine r_val (v := zI ll) (hgll) ?_
  refine lv_istore_n (lv' := [(3, .int (zI ll)), (0, .ref (B + 146)), (1, .int (zI t)), (2, .int (zI x))]) hx hb dX12_shifts_9 rfl hl (by decide) rfl (fun ls hl => ?_)
  refine lv_aload_n hx hb dX12_shifts_10 rfl (lv_at hl 1 rfl) ?_
  refine lv_iload_n hx hb dX12_shifts_11 rfl (lv_at hl 2 rfl) ?_
  refine lv_iload_n hx hb dX12_shifts_12 rfl (lv_at hl 3 rfl) ?_
  refine k_Vi F w (As := [.int (zI t), .int (zI x)]) (rest := []) (a := 146) (kd_lt (a := 146) (show kd 146 = (12, 0, 0) from rfl) (by decide)) (sh_12 rfl _ _) rfl (q_X12_steps (t := t) ⟨by omega, by omega⟩ (x := x) ⟨by omega, by omega⟩ (nn := nn) (hgnn) ⟨by omega, by omega⟩ (by omega) hI) gv_X12_98 hv_X12_steps ⟨(Nat.le_of_ble_eq_true rfl), (Nat.le_of_ble_eq_true rfl)⟩ hl.1 rfl (Nat.le_of_ble_eq_true rfl) ⟨Nat.zero_le _, Nat.zero_le _⟩ dX12_shifts_13 (fun r1 N2 H locs hp w => ?_)
  obtain ⟨z3, rfl, bz3, hIN2, hFN2⟩ := hp
  have hGN2 := Fr.tr hF hFN2 (S := (fun b9 k9 => (b9 = 146 ∧ k9 = 3) ∨ (b9 = 148 ∧ 13 ≤ k9 ∧ k9 ≤ 24))) (fun b k h => by (try dsimp only at h ⊢); rcases h with ⟨rfl, rfl⟩ | ⟨rfl, q1, q2⟩ <;> first | decide | omega)
  have kn4 : N2.1 148 0 = zI nn := (hFN2 148 0 (by first | decide | (dsimp only; first | done | decide | omega) | omega)).trans (hgnn)
  refine z_if_eq (tgt := 39) hx hb (by omega) dX12_shifts_16 (by decide) (fun c5 => ?_) (fun c5 => ?_)
  · rw [hQ]
    exact e_v F w hr hlocks ⟨hIN2, hGN2⟩ dX12_shifts_39
  · refine lv_aload_n hx hb dX12_shifts_19 rfl (lv_at hl 1 rfl) ?_
    refine lv_iload_n hx hb dX12_shifts_20 rfl (lv_at hl 2 rfl) ?_
    refine lv_iload_n hx hb dX12_shifts_21 rfl (lv_at hl 3 rfl) ?_
    refine z_if_eq (tgt := 32) hx hb (by omega) dX12_shifts_22 (by decide) (fun c6 => ?_) (fun c6 => ?_)
    · refine lv_iload_n hx hb dX12_shifts_32 rfl (lv_at hl 0 rfl) ?_
      refine k_Si F w (As := [.int (zI ll)]) (rest := [.int (zI t), .ref (B + 146)]) (q_lastOf (x := ll) ⟨by omega, by omega⟩ ) gs_X12_59 hs_X12_lastOf ⟨(Nat.le_of_ble_eq_true rfl), (Nat.le_of_ble_eq_true rfl)⟩ hl.1 rfl (Nat.le_of_ble_eq_true rfl) ⟨Nat.zero_le _, Nat.zero_le _⟩ dX12_shifts_33 (fun r7 N8 H locs hp w => ?_)
      obtain ⟨hrz9, hMz9⟩ := hp
      rw [hMz9] at w
      obtain ⟨z9, bz9, xz9, xcz9, ez9⟩ := hig2_ex ll (by omega)
      refine r_val (hrz9.trans ez9) ?_
      refine k_Vv F w (As := [.int (zI t), .int (zI z9)]) (rest := []) (a := 146) (kd_lt (a := 146) (show kd 146 = (12, 0, 0) from rfl) (by decide)) (sh_12 rfl _ _) rfl (q_X12_goes (t := t) ⟨by omega, by omega⟩ (y := z9) ⟨by omega, by omega⟩  hIN2) gv_X12_102 hv_X12_goes ⟨(Nat.le_of_ble_eq_true rfl), (Nat.le_of_ble_eq_true rfl)⟩ hl.1 rfl (Nat.le_of_ble_eq_true rfl) ⟨Nat.zero_le _, Nat.zero_le _⟩ dX12_shifts_36 (fun N11 H locs hp w => ?_)
      obtain ⟨hIN11, hFN11⟩ := hp
      have hGN11 := Fr.tr hGN2 hFN11 (S := (fun b9 k9 => (b9 = 146 ∧ k9 = 3) ∨ (b9 = 148 ∧ 13 ≤ k9 ∧ k9 ≤ 24))) (fun b k h => by (try dsimp only at h ⊢); rcases h with ⟨rfl, rfl⟩ | ⟨rfl, q1, q2⟩ <;> first | decide | omega)
      have kn13 : N11.1 148 0 = zI nn := (hFN11 148 0 (by first | decide | (dsimp only; first | done | decide | omega) | omega)).trans (kn4)
      rw [hQ]
      exact e_v F w hr hlocks ⟨hIN11, hGN11⟩ dX12_shifts_39
    · refine lv_iload_n hx hb dX12_shifts_25 rfl (lv_at hl 0 rfl) ?_
      refine k_Si F w (As := [.int (zI ll)]) (rest := [.int (zI t), .ref (B + 146)]) (q_firstOf (x := ll) ⟨by omega, by omega⟩ ) gs_X12_63 hs_X12_firstOf ⟨(Nat.le_of_ble_eq_true rfl), (Nat.le_of_ble_eq_true rfl)⟩ hl.1 rfl (Nat.le_of_ble_eq_true rfl) ⟨Nat.zero_le _, Nat.zero_le _⟩ dX12_shifts_26 (fun r14 N15 H locs hp w => ?_)
      obtain ⟨hrz16, hMz16⟩ := hp
      rw [hMz16] at w
      obtain ⟨z16, bz16, xz16, xcz16, ez16⟩ := low2_ex ll (by omega)
      refine r_val (hrz16.trans ez16) ?_
      refine lv_goto (tgt := 36) hx hb dX12_shifts_29 (by decide) ?_
      refine k_Vv F w (As := [.int (zI t), .int (zI z16)]) (rest := []) (a := 146) (kd_lt (a := 146) (show kd 146 = (12, 0, 0) from rfl) (by decide)) (sh_12 rfl _ _) rfl (q_X12_goes (t := t) ⟨by omega, by omega⟩ (y := z16) ⟨by omega, by omega⟩  hIN2) gv_X12_102 hv_X12_goes ⟨(Nat.le_of_ble_eq_true rfl), (Nat.le_of_ble_eq_true rfl)⟩ hl.1 rfl (Nat.le_of_ble_eq_true rfl) ⟨Nat.zero_le _, Nat.zero_le _⟩ dX12_shifts_36 (fun N18 H locs hp w => ?_)
      obtain ⟨hIN18, hFN18⟩ := hp
      have hGN18 := Fr.tr hGN2 hFN18 (S := (fun b9 k9 => (b9 = 146 ∧ k9 = 3) ∨ (b9 = 148 ∧ 13 ≤ k9 ∧ k9 ≤ 24))) (fun b k h => by (try dsimp only at h ⊢); rcases h with ⟨rfl, rfl⟩ | ⟨rfl, q1, q2⟩ <;> first | decide | omega)
      have kn20 : N18.1 148 0 = zI nn := (hFN18 148 0 (by first | decide | (dsimp only; first | done | decide | omega) | omega)).trans (kn4)
      rw [hQ]
      exact e_v F w hr hlocks ⟨hIN18, hGN18⟩ dX12_shifts_39
theorem dX12_docks_0 : decode cX12_docks 0 = .ok (.iload_n 2, 1) := wdX12_docks_0
theorem dX12_docks_1 : decode cX12_docks 1 = .ok (.ifCond .eq 9, 3) := wdX12_docks_1
theorem dX12_docks_10 : decode cX12_docks 10 = .ok (.iload_n 1, 1) := wdX12_docks_10
theorem dX12_docks_11 : decode cX12_docks 11 = .ok (.iconst 1, 1) := wdX12_docks_11
theorem dX12_docks_12 : decode cX12_docks 12 = .ok (.iadd, 1) := wdX12_docks_12
theorem dX12_docks_13 : decode cX12_docks 13 = .ok (.istore_n 3, 1) := wdX12_docks_13
theorem dX12_docks_14 : decode cX12_docks 14 = .ok (.aload_n 0, 1) := wdX12_docks_14
theorem dX12_docks_15 : decode cX12_docks 15 = .ok (.getfield 17, 3) := wdX12_docks_15
theorem dX12_docks_18 : decode cX12_docks 18 = .ok (.iload_n 3, 1) := wdX12_docks_18
theorem dX12_docks_19 : decode cX12_docks 19 = .ok (.invokestatic 105, 3) := wdX12_docks_19
theorem tk_X12_isTone : Cond.code yX12_isTone cX12_isTone 2 (some .boolean) ∈ TB := wtk_X12_isTone
theorem gc_X12_isTone : GoodIn TB (cw yX12_isTone cX12_isTone 2 (some .boolean)) := goodIn_c2 tk_X12_isTone
theorem tb_536 : Cond.methodLink "ToneLinesModel" 105 yX12_isTone ∈ TB := wtb_118
theorem tb_537 : Cond.static yX12_isTone ∈ TB := wtb_119
theorem gs_X12_105 : GoodIn TB (va_wsS RX12 105 yX12_isTone (cw yX12_isTone cX12_isTone 2 (some .boolean))) := goodIn_3 tb_536 tb_537 tb_38 gc_X12_isTone
theorem hs_X12_isTone : yX12_isTone.cls ≠ "java/lang/invoke/MethodHandle" ∧ yX12_isTone.cls ≠ "java/lang/invoke/VarHandle" ∧ (parseMethodDescriptor yX12_isTone.desc).map (fun d => d.parameters.length) = some 2 := whs_X12_isTone
theorem dX12_docks_22 : decode cX12_docks 22 = .ok (.ifCond .eq 32, 3) := wdX12_docks_22
theorem dX12_docks_54 : decode cX12_docks 54 = .ok (.aload_n 0, 1) := wdX12_docks_54
theorem dX12_docks_55 : decode cX12_docks 55 = .ok (.getfield 17, 3) := wdX12_docks_55
theorem dX12_docks_58 : decode cX12_docks 58 = .ok (.iload_n 3, 1) := wdX12_docks_58
theorem dX12_docks_59 : decode cX12_docks 59 = .ok (.invokestatic 105, 3) := wdX12_docks_59
theorem dX12_docks_62 : decode cX12_docks 62 = .ok (.ifCond .ne 4, 3) := wdX12_docks_62
theorem dX12_docks_66 : decode cX12_docks 66 = .ok (.iload_n 2, 1) := wdX12_docks_66
theorem dX12_docks_67 : decode cX12_docks 67 = .ok (.ifCond .eq 18, 3) := wdX12_docks_67
theorem dX12_docks_85 : decode cX12_docks 85 = .ok (.aload_n 0, 1) := wdX12_docks_85
theorem dX12_docks_86 : decode cX12_docks 86 = .ok (.getfield 17, 3) := wdX12_docks_86
theorem dX12_docks_89 : decode cX12_docks 89 = .ok (.bipush 13, 2) := wdX12_docks_89
theorem dX12_docks_91 : decode cX12_docks 91 = .ok (.iload_n 3, 1) := wdX12_docks_91
theorem dX12_docks_92 : decode cX12_docks 92 = .ok (.iadd, 1) := wdX12_docks_92
theorem dX12_docks_93 : decode cX12_docks 93 = .ok (.iaload, 1) := wdX12_docks_93
theorem dX12_docks_94 : decode cX12_docks 94 = .ok (.invokestatic 63, 3) := wdX12_docks_94
theorem dX12_docks_97 : decode cX12_docks 97 = .ok (.istore 4, 2) := wdX12_docks_97
theorem dX12_docks_99 : decode cX12_docks 99 = .ok (.aload_n 0, 1) := wdX12_docks_99
theorem dX12_docks_100 : decode cX12_docks 100 = .ok (.getfield 17, 3) := wdX12_docks_100
theorem dX12_docks_103 : decode cX12_docks 103 = .ok (.iload_n 1, 1) := wdX12_docks_103
theorem dX12_docks_104 : decode cX12_docks 104 = .ok (.iload 4, 2) := wdX12_docks_104
theorem dX12_docks_106 : decode cX12_docks 106 = .ok (.invokestatic 86, 3) := wdX12_docks_106
theorem dX12_docks_109 : decode cX12_docks 109 = .ok (.ifCond .eq 10, 3) := wdX12_docks_109
theorem dX12_docks_119 : decode cX12_docks 119 = .ok (.return_, 1) := wdX12_docks_119
theorem dX12_docks_112 : decode cX12_docks 112 = .ok (.aload_n 0, 1) := wdX12_docks_112
theorem dX12_docks_113 : decode cX12_docks 113 = .ok (.iload_n 1, 1) := wdX12_docks_113
theorem dX12_docks_114 : decode cX12_docks 114 = .ok (.iload 4, 2) := wdX12_docks_114
theorem dX12_docks_116 : decode cX12_docks 116 = .ok (.invokevirtual 90, 3) := wdX12_docks_116
theorem dX12_docks_65 : decode cX12_docks 65 = .ok (.return_, 1) := wdX12_docks_65
theorem dX12_docks_25 : decode cX12_docks 25 = .ok (.aload_n 0, 1) := wdX12_docks_25
theorem dX12_docks_26 : decode cX12_docks 26 = .ok (.getfield 17, 3) := wdX12_docks_26
theorem dX12_docks_29 : decode cX12_docks 29 = .ok (.bipush 13, 2) := wdX12_docks_29
theorem dX12_docks_31 : decode cX12_docks 31 = .ok (.iload_n 3, 1) := wdX12_docks_31
theorem dX12_docks_32 : decode cX12_docks 32 = .ok (.iadd, 1) := wdX12_docks_32
theorem dX12_docks_33 : decode cX12_docks 33 = .ok (.iaload, 1) := wdX12_docks_33
theorem dX12_docks_34 : decode cX12_docks 34 = .ok (.ifCond .ne 20, 3) := wdX12_docks_34
theorem dX12_docks_37 : decode cX12_docks 37 = .ok (.iload_n 2, 1) := wdX12_docks_37
theorem dX12_docks_38 : decode cX12_docks 38 = .ok (.ifCond .eq 9, 3) := wdX12_docks_38
theorem dX12_docks_47 : decode cX12_docks 47 = .ok (.iload_n 3, 1) := wdX12_docks_47
theorem dX12_docks_48 : decode cX12_docks 48 = .ok (.iconst 1, 1) := wdX12_docks_48
theorem dX12_docks_49 : decode cX12_docks 49 = .ok (.iadd, 1) := wdX12_docks_49
theorem dX12_docks_50 : decode cX12_docks 50 = .ok (.istore_n 3, 1) := wdX12_docks_50
theorem dX12_docks_51 : decode cX12_docks 51 = .ok (.goto (-37), 3) := wdX12_docks_51
set_option maxRecDepth 4000 in
theorem q_X12_docks_0 {l : Launch} {D : va_G} {B : Nat} {cy : Nat → ClassId} {M : Mem} {t : Int} (ht : 0 ≤ t ∧ t ≤ 11) {x : Int} (hx : 0 ≤ x ∧ x ≤ 0) {nn : Int} (hgnn : M.1 148 0 = zI nn) (hnn : 0 ≤ nn ∧ nn ≤ 12) (hpre0 : t < nn) (hI : IvR M) : Cv l D B cy yX12_docks cX12_docks 5 3 66 [.ref (B + 146), .int (zI t), .int (zI x)] M (fun M1 => IvR M1 ∧ Fr (fun b9 k9 => (b9 = 146 ∧ k9 = 3) ∨ (b9 = 148 ∧ 13 ≤ k9 ∧ k9 ≤ 24)) M1 M) := by
  refine s_anyQ (by decide) (Nat.le_of_ble_eq_true rfl) ?_
  intro p e s m args below meth c ls Q F hr hlocks hQ w hl
  have F : CallFix p m c cX12_docks 5 s args TB RX12 := F
  have hx := F.1
  have hb := F.2.1
  have hl : lv_has ls 5 [(0, .ref (B + 146)), (1, .int (zI t)), (2, .int (zI x))] := hl
  have hF : Fr (fun b9 k9 => (b9 = 146 ∧ k9 = 3) ∨ (b9 = 148 ∧ 13 ≤ k9 ∧ k9 ≤ 24)) M M := Fr.rf
  refine lv_iload_n hx hb dX12_docks_0 rfl (lv_at hl 2 rfl) ?_
  refine z_if_eq (tgt := 10) hx hb (by omega) dX12_docks_1 (by decide) (fun c1 => ?_) (fun c1 => False.elim (by omega))
  refine lv_iload_n hx hb dX12_docks_10 rfl (lv_at hl 1 rfl) ?_
  refine lv_iconst (v := zI 1) hx hb dX12_docks_11 rfl ?_
  refine z_iadd (z := (t + 1)) hx hb dX12_docks_12 (by omega) ?_
  refine lv_istore_n (lv' := [(3, .int (zI (t + 1))), (0, .ref (B + 146)), (1, .int (zI t)), (2, .int (zI x))]) hx hb dX12_docks_13 rfl hl (by decide) rfl (fun ls hl => ?_)
  have lp14 : ∀ (f : Nat) (v3_14 : Int), (1 ≤ v3_14 ∧ v3_14 ≤ 12) → (Int.toNat (12 - v3_14) < f) → ∀ (H : Heap) (locs : List Loc) (ls : Array Slot), Wd D B cy s s.heap M H locs → lv_has ls 5 [(3, .int (zI v3_14)), (0, .ref (B + 146)), (1, .int (zI t)), (2, .int (zI x))] → W p l e (rmm 3 66) s m args below meth c H locs 0 0 Q (F0 m 14 ls []) := by
    intro f
    induction f with
    | zero => intros; omega
    | succ f ih14 =>
      intro v3_14  iv3_14 hf14 H locs ls w hl
      refine lv_aload_n hx hb dX12_docks_14 rfl (lv_at hl 1 rfl) ?_
      refine f_12_2 F w (a := 146) rfl tb_45 dX12_docks_15 ?_
      refine lv_iload_n hx hb dX12_docks_18 rfl (lv_at hl 0 rfl) ?_
      refine k_Si F w (As := [.ref (B + 148), .int (zI v3_14)]) (rest := []) (q_X12_isTone_148 (t := v3_14) ⟨by omega, by omega⟩ (nn := nn) (hgnn) ⟨by omega, by omega⟩  hI) gs_X12_105 hs_X12_isTone ⟨(Nat.le_of_ble_eq_true rfl), (Nat.le_of_ble_eq_true rfl)⟩ hl.1 rfl (Nat.le_of_ble_eq_true rfl) ⟨Nat.zero_le _, Nat.zero_le _⟩ dX12_docks_19 (fun r2 N3 H locs hp w => ?_)
      obtain ⟨z4, rfl, bz4, xz4, hMN3⟩ := hp
      rw [hMN3] at w
      refine z_if_eq (tgt := 54) hx hb (by omega) dX12_docks_22 (by decide) (fun c5 => ?_) (fun c5 => ?_)
      · refine lv_aload_n hx hb dX12_docks_54 rfl (lv_at hl 1 rfl) ?_
        refine f_12_2 F w (a := 146) rfl tb_45 dX12_docks_55 ?_
        refine lv_iload_n hx hb dX12_docks_58 rfl (lv_at hl 0 rfl) ?_
        refine k_Si F w (As := [.ref (B + 148), .int (zI v3_14)]) (rest := []) (q_X12_isTone_148 (t := v3_14) ⟨by omega, by omega⟩ (nn := nn) (hgnn) ⟨by omega, by omega⟩  hI) gs_X12_105 hs_X12_isTone ⟨(Nat.le_of_ble_eq_true rfl), (Nat.le_of_ble_eq_true rfl)⟩ hl.1 rfl (Nat.le_of_ble_eq_true rfl) ⟨Nat.zero_le _, Nat.zero_le _⟩ dX12_docks_59 (fun r6 N7 H locs hp w => ?_)
        obtain ⟨z8, rfl, bz8, xz8, hMN7⟩ := hp
        rw [hMN7] at w
        refine z_if_ne (tgt := 66) hx hb (by omega) dX12_docks_62 (by decide) (fun c9 => ?_) (fun c9 => ?_)
        · refine lv_iload_n hx hb dX12_docks_66 rfl (lv_at hl 3 rfl) ?_
          refine z_if_eq (tgt := 85) hx hb (by omega) dX12_docks_67 (by decide) (fun c10 => ?_) (fun c10 => False.elim (by omega))
          refine lv_aload_n hx hb dX12_docks_85 rfl (lv_at hl 1 rfl) ?_
          refine f_12_2 F w (a := 146) rfl tb_45 dX12_docks_86 ?_
          refine lv_bipush (v := zI 13) hx hb dX12_docks_89 (by decide) ?_
          refine lv_iload_n hx hb dX12_docks_91 rfl (lv_at hl 0 rfl) ?_
          refine z_iadd (z := (v3_14 + 13)) hx hb dX12_docks_92 (by omega) ?_
          refine g_iald F w (a := 148) rfl (j := (13 + Int.toNat v3_14)) (ix_l (t := v3_14) (by omega) (by omega)) (by omega) dX12_docks_93 ?_
          obtain ⟨z11, bz11, ez11⟩ := IvR.ld (k := (13 + Int.toNat v3_14)) hI (wiv_l (a := 148) (k := (13 + Int.toNat v3_14)) (by omega) (by omega)) (show 146 ≤ 148 ∧ 148 < 159 by decide)
          refine r_val ez11 ?_
          refine k_Si F w (As := [.int (zI z11)]) (rest := []) (q_firstOf (x := z11) ⟨by omega, by omega⟩ ) gs_X12_63 hs_X12_firstOf ⟨(Nat.le_of_ble_eq_true rfl), (Nat.le_of_ble_eq_true rfl)⟩ hl.1 rfl (Nat.le_of_ble_eq_true rfl) ⟨Nat.zero_le _, Nat.zero_le _⟩ dX12_docks_94 (fun r12 N13 H locs hp w => ?_)
          obtain ⟨hrz14, hMz14⟩ := hp
          rw [hMz14] at w
          obtain ⟨z14, bz14, xz14, xcz14, ez14⟩ := low2_ex z11 (by omega)
          refine r_val (hrz14.trans ez14) ?_
          refine lv_istore (lv' := [(4, .int (zI z14)), (3, .int (zI v3_14)), (0, .ref (B + 146)), (1, .int (zI t)), (2, .int (zI x))]) hx hb dX12_docks_97 hl (by decide) rfl (fun ls hl => ?_)
          refine lv_aload_n hx hb dX12_docks_99 rfl (lv_at hl 2 rfl) ?_
          refine f_12_2 F w (a := 146) rfl tb_45 dX12_docks_100 ?_
          refine lv_iload_n hx hb dX12_docks_103 rfl (lv_at hl 3 rfl) ?_
          refine lv_iload hx hb dX12_docks_104 (lv_at hl 0 rfl) ?_
          refine k_Si F w (As := [.ref (B + 148), .int (zI t), .int (zI z14)]) (rest := []) (q_isOpen_148 (t := t) ⟨by omega, by omega⟩ (y := z14) ⟨by omega, by omega⟩ (nn := nn) (hgnn) ⟨by omega, by omega⟩ (by omega) hI) gs_X12_86 hs_X12_isOpen ⟨(Nat.le_of_ble_eq_true rfl), (Nat.le_of_ble_eq_true rfl)⟩ hl.1 rfl (Nat.le_of_ble_eq_true rfl) ⟨Nat.zero_le _, Nat.zero_le _⟩ dX12_docks_106 (fun r15 N16 H locs hp w => ?_)
          obtain ⟨z17, rfl, bz17, xz17, hMN16⟩ := hp
          rw [hMN16] at w
          refine z_if_eq (tgt := 119) hx hb (by omega) dX12_docks_109 (by decide) (fun c18 => ?_) (fun c18 => ?_)
          · rw [hQ]
            exact e_v F w hr hlocks ⟨hI, hF⟩ dX12_docks_119
          · refine lv_aload_n hx hb dX12_docks_112 rfl (lv_at hl 2 rfl) ?_
            refine lv_iload_n hx hb dX12_docks_113 rfl (lv_at hl 3 rfl) ?_
            refine lv_iload hx hb dX12_docks_114 (lv_at hl 0 rfl) ?_
            refine k_Vv F w (As := [.int (zI t), .int (zI z14)]) (rest := []) (a := 146) (kd_lt (a := 146) (show kd 146 = (12, 0, 0) from rfl) (by decide)) (sh_12 rfl _ _) rfl (q_X12_comes (t := t) ⟨by omega, by omega⟩ (y := z14) ⟨by omega, by omega⟩ (Or.resolve_left xz17 (by omega)) hI) gv_X12_90 hv_X12_comes ⟨(Nat.le_of_ble_eq_true rfl), (Nat.le_of_ble_eq_true rfl)⟩ hl.1 rfl (Nat.le_of_ble_eq_true rfl) ⟨Nat.zero_le _, Nat.zero_le _⟩ dX12_docks_116 (fun N20 H locs hp w => ?_)
            obtain ⟨hIN20, hFN20⟩ := hp
            have hGN20 := Fr.tr hF hFN20 (S := (fun b9 k9 => (b9 = 146 ∧ k9 = 3) ∨ (b9 = 148 ∧ 13 ≤ k9 ∧ k9 ≤ 24))) (fun b k h => by (try dsimp only at h ⊢); rcases h with ⟨rfl, rfl⟩ | ⟨rfl, q1, q2⟩ <;> first | decide | omega)
            have kn22 : N20.1 148 0 = zI nn := (hFN20 148 0 (by first | decide | (dsimp only; first | done | decide | omega) | omega)).trans (hgnn)
            rw [hQ]
            exact e_v F w hr hlocks ⟨hIN20, hGN20⟩ dX12_docks_119
        · rw [hQ]
          exact e_v F w hr hlocks ⟨hI, hF⟩ dX12_docks_65
      · refine lv_aload_n hx hb dX12_docks_25 rfl (lv_at hl 1 rfl) ?_
        refine f_12_2 F w (a := 146) rfl tb_45 dX12_docks_26 ?_
        refine lv_bipush (v := zI 13) hx hb dX12_docks_29 (by decide) ?_
        refine lv_iload_n hx hb dX12_docks_31 rfl (lv_at hl 0 rfl) ?_
        refine z_iadd (z := (v3_14 + 13)) hx hb dX12_docks_32 (by omega) ?_
        refine g_iald F w (a := 148) rfl (j := (13 + Int.toNat v3_14)) (ix_l (t := v3_14) (by omega) (by omega)) (by omega) dX12_docks_33 ?_
        obtain ⟨z23, bz23, ez23⟩ := IvR.ld (k := (13 + Int.toNat v3_14)) hI (wiv_l (a := 148) (k := (13 + Int.toNat v3_14)) (by omega) (by omega)) (show 146 ≤ 148 ∧ 148 < 159 by decide)
        refine r_val ez23 ?_
        refine z_if_ne (tgt := 54) hx hb (by omega) dX12_docks_34 (by decide) (fun c24 => ?_) (fun c24 => ?_)
        · refine lv_aload_n hx hb dX12_docks_54 rfl (lv_at hl 1 rfl) ?_
          refine f_12_2 F w (a := 146) rfl tb_45 dX12_docks_55 ?_
          refine lv_iload_n hx hb dX12_docks_58 rfl (lv_at hl 0 rfl) ?_
          refine k_Si F w (As := [.ref (B + 148), .int (zI v3_14)]) (rest := []) (q_X12_isTone_148 (t := v3_14) ⟨by omega, by omega⟩ (nn := nn) (hgnn) ⟨by omega, by omega⟩  hI) gs_X12_105 hs_X12_isTone ⟨(Nat.le_of_ble_eq_true rfl), (Nat.le_of_ble_eq_true rfl)⟩ hl.1 rfl (Nat.le_of_ble_eq_true rfl) ⟨Nat.zero_le _, Nat.zero_le _⟩ dX12_docks_59 (fun r25 N26 H locs hp w => ?_)
          obtain ⟨z27, rfl, bz27, xz27, hMN26⟩ := hp
          rw [hMN26] at w
          refine z_if_ne (tgt := 66) hx hb (by omega) dX12_docks_62 (by decide) (fun c28 => ?_) (fun c28 => ?_)
          · refine lv_iload_n hx hb dX12_docks_66 rfl (lv_at hl 3 rfl) ?_
            refine z_if_eq (tgt := 85) hx hb (by omega) dX12_docks_67 (by decide) (fun c29 => ?_) (fun c29 => False.elim (by omega))
            refine lv_aload_n hx hb dX12_docks_85 rfl (lv_at hl 1 rfl) ?_
            refine f_12_2 F w (a := 146) rfl tb_45 dX12_docks_86 ?_
            refine lv_bipush (v := zI 13) hx hb dX12_docks_89 (by decide) ?_
            refine lv_iload_n hx hb dX12_docks_91 rfl (lv_at hl 0 rfl) ?_
            refine z_iadd (z := (v3_14 + 13)) hx hb dX12_docks_92 (by omega) ?_
            refine g_iald F w (a := 148) rfl (j := (13 + Int.toNat v3_14)) (ix_l (t := v3_14) (by omega) (by omega)) (by omega) dX12_docks_93 ?_
            refine r_val (v := zI z23) (ez23) ?_
            refine k_Si F w (As := [.int (zI z23)]) (rest := []) (q_firstOf (x := z23) ⟨by omega, by omega⟩ ) gs_X12_63 hs_X12_firstOf ⟨(Nat.le_of_ble_eq_true rfl), (Nat.le_of_ble_eq_true rfl)⟩ hl.1 rfl (Nat.le_of_ble_eq_true rfl) ⟨Nat.zero_le _, Nat.zero_le _⟩ dX12_docks_94 (fun r30 N31 H locs hp w => ?_)
            obtain ⟨hrz32, hMz32⟩ := hp
            rw [hMz32] at w
            obtain ⟨z32, bz32, xz32, xcz32, ez32⟩ := low2_ex z23 (by omega)
            refine r_val (hrz32.trans ez32) ?_
            refine lv_istore (lv' := [(4, .int (zI z32)), (3, .int (zI v3_14)), (0, .ref (B + 146)), (1, .int (zI t)), (2, .int (zI x))]) hx hb dX12_docks_97 hl (by decide) rfl (fun ls hl => ?_)
            refine lv_aload_n hx hb dX12_docks_99 rfl (lv_at hl 2 rfl) ?_
            refine f_12_2 F w (a := 146) rfl tb_45 dX12_docks_100 ?_
            refine lv_iload_n hx hb dX12_docks_103 rfl (lv_at hl 3 rfl) ?_
            refine lv_iload hx hb dX12_docks_104 (lv_at hl 0 rfl) ?_
            refine k_Si F w (As := [.ref (B + 148), .int (zI t), .int (zI z32)]) (rest := []) (q_isOpen_148 (t := t) ⟨by omega, by omega⟩ (y := z32) ⟨by omega, by omega⟩ (nn := nn) (hgnn) ⟨by omega, by omega⟩ (by omega) hI) gs_X12_86 hs_X12_isOpen ⟨(Nat.le_of_ble_eq_true rfl), (Nat.le_of_ble_eq_true rfl)⟩ hl.1 rfl (Nat.le_of_ble_eq_true rfl) ⟨Nat.zero_le _, Nat.zero_le _⟩ dX12_docks_106 (fun r33 N34 H locs hp w => ?_)
            obtain ⟨z35, rfl, bz35, xz35, hMN34⟩ := hp
            rw [hMN34] at w
            refine z_if_eq (tgt := 119) hx hb (by omega) dX12_docks_109 (by decide) (fun c36 => ?_) (fun c36 => ?_)
            · rw [hQ]
              exact e_v F w hr hlocks ⟨hI, hF⟩ dX12_docks_119
            · refine lv_aload_n hx hb dX12_docks_112 rfl (lv_at hl 2 rfl) ?_
              refine lv_iload_n hx hb dX12_docks_113 rfl (lv_at hl 3 rfl) ?_
              refine lv_iload hx hb dX12_docks_114 (lv_at hl 0 rfl) ?_
              refine k_Vv F w (As := [.int (zI t), .int (zI z32)]) (rest := []) (a := 146) (kd_lt (a := 146) (show kd 146 = (12, 0, 0) from rfl) (by decide)) (sh_12 rfl _ _) rfl (q_X12_comes (t := t) ⟨by omega, by omega⟩ (y := z32) ⟨by omega, by omega⟩ (Or.resolve_left xz35 (by omega)) hI) gv_X12_90 hv_X12_comes ⟨(Nat.le_of_ble_eq_true rfl), (Nat.le_of_ble_eq_true rfl)⟩ hl.1 rfl (Nat.le_of_ble_eq_true rfl) ⟨Nat.zero_le _, Nat.zero_le _⟩ dX12_docks_116 (fun N38 H locs hp w => ?_)
              obtain ⟨hIN38, hFN38⟩ := hp
              have hGN38 := Fr.tr hF hFN38 (S := (fun b9 k9 => (b9 = 146 ∧ k9 = 3) ∨ (b9 = 148 ∧ 13 ≤ k9 ∧ k9 ≤ 24))) (fun b k h => by (try dsimp only at h ⊢); rcases h with ⟨rfl, rfl⟩ | ⟨rfl, q1, q2⟩ <;> first | decide | omega)
              have kn40 : N38.1 148 0 = zI nn := (hFN38 148 0 (by first | decide | (dsimp only; first | done | decide | omega) | omega)).trans (hgnn)
              rw [hQ]
              exact e_v F w hr hlocks ⟨hIN38, hGN38⟩ dX12_docks_119
          · rw [hQ]
            exact e_v F w hr hlocks ⟨hI, hF⟩ dX12_docks_65
        · refine lv_iload_n hx hb dX12_docks_37 rfl (lv_at hl 3 rfl) ?_
          refine z_if_eq (tgt := 47) hx hb (by omega) dX12_docks_38 (by decide) (fun c41 => ?_) (fun c41 => False.elim (by omega))
          refine lv_iload_n hx hb dX12_docks_47 rfl (lv_at hl 0 rfl) ?_
          refine lv_iconst (v := zI 1) hx hb dX12_docks_48 rfl ?_
          refine z_iadd (z := (v3_14 + 1)) hx hb dX12_docks_49 (by omega) ?_
          refine lv_istore_n (lv' := [(3, .int (zI (v3_14 + 1))), (0, .ref (B + 146)), (1, .int (zI t)), (2, .int (zI x))]) hx hb dX12_docks_50 rfl hl (by decide) rfl (fun ls hl => ?_)
          refine lv_goto (tgt := 14) hx hb dX12_docks_51 (by decide) ?_
          exact ih14 (v3_14 + 1) (by omega)     (by omega) _ _ _ w (lv_sub hl [0, 1, 2, 3] rfl)
  exact lp14 _ (t + 1) (by omega) (Nat.lt_succ_self _) _ _ _ w (lv_sub hl [0, 1, 2, 3] rfl)
theorem dX12_docks_4 : decode cX12_docks 4 = .ok (.iload_n 1, 1) := wdX12_docks_4
theorem dX12_docks_5 : decode cX12_docks 5 = .ok (.iconst 1, 1) := wdX12_docks_5
theorem dX12_docks_6 : decode cX12_docks 6 = .ok (.isub, 1) := wdX12_docks_6
theorem dX12_docks_7 : decode cX12_docks 7 = .ok (.goto 6, 3) := wdX12_docks_7
theorem dX12_docks_70 : decode cX12_docks 70 = .ok (.aload_n 0, 1) := wdX12_docks_70
theorem dX12_docks_71 : decode cX12_docks 71 = .ok (.getfield 17, 3) := wdX12_docks_71
theorem dX12_docks_74 : decode cX12_docks 74 = .ok (.bipush 13, 2) := wdX12_docks_74
theorem dX12_docks_76 : decode cX12_docks 76 = .ok (.iload_n 3, 1) := wdX12_docks_76
theorem dX12_docks_77 : decode cX12_docks 77 = .ok (.iadd, 1) := wdX12_docks_77
theorem dX12_docks_78 : decode cX12_docks 78 = .ok (.iaload, 1) := wdX12_docks_78
theorem dX12_docks_79 : decode cX12_docks 79 = .ok (.invokestatic 59, 3) := wdX12_docks_79
theorem dX12_docks_82 : decode cX12_docks 82 = .ok (.goto 15, 3) := wdX12_docks_82
theorem dX12_docks_41 : decode cX12_docks 41 = .ok (.iload_n 3, 1) := wdX12_docks_41
theorem dX12_docks_42 : decode cX12_docks 42 = .ok (.iconst 1, 1) := wdX12_docks_42
theorem dX12_docks_43 : decode cX12_docks 43 = .ok (.isub, 1) := wdX12_docks_43
theorem dX12_docks_44 : decode cX12_docks 44 = .ok (.goto 6, 3) := wdX12_docks_44
set_option maxRecDepth 4000 in
theorem q_X12_docks_1 {l : Launch} {D : va_G} {B : Nat} {cy : Nat → ClassId} {M : Mem} {t : Int} (ht : 0 ≤ t ∧ t ≤ 11) {x : Int} (hx : 1 ≤ x ∧ x ≤ 1) {nn : Int} (hgnn : M.1 148 0 = zI nn) (hnn : 0 ≤ nn ∧ nn ≤ 12) (hpre0 : t < nn) (hI : IvR M) : Cv l D B cy yX12_docks cX12_docks 5 3 66 [.ref (B + 146), .int (zI t), .int (zI x)] M (fun M1 => IvR M1 ∧ Fr (fun b9 k9 => (b9 = 146 ∧ k9 = 3) ∨ (b9 = 148 ∧ 13 ≤ k9 ∧ k9 ≤ 24)) M1 M) := by
  refine s_anyQ (by decide) (Nat.le_of_ble_eq_true rfl) ?_
  intro p e s m args below meth c ls Q F hr hlocks hQ w hl
  have F : CallFix p m c cX12_docks 5 s args TB RX12 := F
  have hx := F.1
  have hb := F.2.1
  have hl : lv_has ls 5 [(0, .ref (B + 146)), (1, .int (zI t)), (2, .int (zI x))] := hl
  have hF : Fr (fun b9 k9 => (b9 = 146 ∧ k9 = 3) ∨ (b9 = 148 ∧ 13 ≤ k9 ∧ k9 ≤ 24)) M M := Fr.rf
  refine lv_iload_n hx hb dX12_docks_0 rfl (lv_at hl 2 rfl) ?_
  refine z_if_eq (tgt := 10) hx hb (by omega) dX12_docks_1 (by decide) (fun c1 => False.elim (by omega)) (fun c1 => ?_)
  refine lv_iload_n hx hb dX12_docks_4 rfl (lv_at hl 1 rfl) ?_
  refine lv_iconst (v := zI 1) hx hb dX12_docks_5 rfl ?_
  refine z_isub (z := (t - 1)) hx hb dX12_docks_6 (by omega) ?_
  refine lv_goto (tgt := 13) hx hb dX12_docks_7 (by decide) ?_
  refine lv_istore_n (lv' := [(3, .int (zI (t - 1))), (0, .ref (B + 146)), (1, .int (zI t)), (2, .int (zI x))]) hx hb dX12_docks_13 rfl hl (by decide) rfl (fun ls hl => ?_)
  have lp14 : ∀ (f : Nat) (v3_14 : Int), ((-1) ≤ v3_14 ∧ v3_14 ≤ 10) → (Int.toNat (v3_14 - (-1)) < f) → ∀ (H : Heap) (locs : List Loc) (ls : Array Slot), Wd D B cy s s.heap M H locs → lv_has ls 5 [(3, .int (zI v3_14)), (0, .ref (B + 146)), (1, .int (zI t)), (2, .int (zI x))] → W p l e (rmm 3 66) s m args below meth c H locs 0 0 Q (F0 m 14 ls []) := by
    intro f
    induction f with
    | zero => intros; omega
    | succ f ih14 =>
      intro v3_14  iv3_14 hf14 H locs ls w hl
      refine lv_aload_n hx hb dX12_docks_14 rfl (lv_at hl 1 rfl) ?_
      refine f_12_2 F w (a := 146) rfl tb_45 dX12_docks_15 ?_
      refine lv_iload_n hx hb dX12_docks_18 rfl (lv_at hl 0 rfl) ?_
      refine k_Si F w (As := [.ref (B + 148), .int (zI v3_14)]) (rest := []) (q_X12_isTone_148 (t := v3_14) ⟨by omega, by omega⟩ (nn := nn) (hgnn) ⟨by omega, by omega⟩  hI) gs_X12_105 hs_X12_isTone ⟨(Nat.le_of_ble_eq_true rfl), (Nat.le_of_ble_eq_true rfl)⟩ hl.1 rfl (Nat.le_of_ble_eq_true rfl) ⟨Nat.zero_le _, Nat.zero_le _⟩ dX12_docks_19 (fun r2 N3 H locs hp w => ?_)
      obtain ⟨z4, rfl, bz4, xz4, hMN3⟩ := hp
      rw [hMN3] at w
      refine z_if_eq (tgt := 54) hx hb (by omega) dX12_docks_22 (by decide) (fun c5 => ?_) (fun c5 => ?_)
      · refine lv_aload_n hx hb dX12_docks_54 rfl (lv_at hl 1 rfl) ?_
        refine f_12_2 F w (a := 146) rfl tb_45 dX12_docks_55 ?_
        refine lv_iload_n hx hb dX12_docks_58 rfl (lv_at hl 0 rfl) ?_
        refine k_Si F w (As := [.ref (B + 148), .int (zI v3_14)]) (rest := []) (q_X12_isTone_148 (t := v3_14) ⟨by omega, by omega⟩ (nn := nn) (hgnn) ⟨by omega, by omega⟩  hI) gs_X12_105 hs_X12_isTone ⟨(Nat.le_of_ble_eq_true rfl), (Nat.le_of_ble_eq_true rfl)⟩ hl.1 rfl (Nat.le_of_ble_eq_true rfl) ⟨Nat.zero_le _, Nat.zero_le _⟩ dX12_docks_59 (fun r6 N7 H locs hp w => ?_)
        obtain ⟨z8, rfl, bz8, xz8, hMN7⟩ := hp
        rw [hMN7] at w
        refine z_if_ne (tgt := 66) hx hb (by omega) dX12_docks_62 (by decide) (fun c9 => ?_) (fun c9 => ?_)
        · refine lv_iload_n hx hb dX12_docks_66 rfl (lv_at hl 3 rfl) ?_
          refine z_if_eq (tgt := 85) hx hb (by omega) dX12_docks_67 (by decide) (fun c10 => False.elim (by omega)) (fun c10 => ?_)
          refine lv_aload_n hx hb dX12_docks_70 rfl (lv_at hl 1 rfl) ?_
          refine f_12_2 F w (a := 146) rfl tb_45 dX12_docks_71 ?_
          refine lv_bipush (v := zI 13) hx hb dX12_docks_74 (by decide) ?_
          refine lv_iload_n hx hb dX12_docks_76 rfl (lv_at hl 0 rfl) ?_
          refine z_iadd (z := (v3_14 + 13)) hx hb dX12_docks_77 (by omega) ?_
          refine g_iald F w (a := 148) rfl (j := (13 + Int.toNat v3_14)) (ix_l (t := v3_14) (by omega) (by omega)) (by omega) dX12_docks_78 ?_
          obtain ⟨z11, bz11, ez11⟩ := IvR.ld (k := (13 + Int.toNat v3_14)) hI (wiv_l (a := 148) (k := (13 + Int.toNat v3_14)) (by omega) (by omega)) (show 146 ≤ 148 ∧ 148 < 159 by decide)
          refine r_val ez11 ?_
          refine k_Si F w (As := [.int (zI z11)]) (rest := []) (q_lastOf (x := z11) ⟨by omega, by omega⟩ ) gs_X12_59 hs_X12_lastOf ⟨(Nat.le_of_ble_eq_true rfl), (Nat.le_of_ble_eq_true rfl)⟩ hl.1 rfl (Nat.le_of_ble_eq_true rfl) ⟨Nat.zero_le _, Nat.zero_le _⟩ dX12_docks_79 (fun r12 N13 H locs hp w => ?_)
          obtain ⟨hrz14, hMz14⟩ := hp
          rw [hMz14] at w
          obtain ⟨z14, bz14, xz14, xcz14, ez14⟩ := hig2_ex z11 (by omega)
          refine r_val (hrz14.trans ez14) ?_
          refine lv_goto (tgt := 97) hx hb dX12_docks_82 (by decide) ?_
          refine lv_istore (lv' := [(4, .int (zI z14)), (3, .int (zI v3_14)), (0, .ref (B + 146)), (1, .int (zI t)), (2, .int (zI x))]) hx hb dX12_docks_97 hl (by decide) rfl (fun ls hl => ?_)
          refine lv_aload_n hx hb dX12_docks_99 rfl (lv_at hl 2 rfl) ?_
          refine f_12_2 F w (a := 146) rfl tb_45 dX12_docks_100 ?_
          refine lv_iload_n hx hb dX12_docks_103 rfl (lv_at hl 3 rfl) ?_
          refine lv_iload hx hb dX12_docks_104 (lv_at hl 0 rfl) ?_
          refine k_Si F w (As := [.ref (B + 148), .int (zI t), .int (zI z14)]) (rest := []) (q_isOpen_148 (t := t) ⟨by omega, by omega⟩ (y := z14) ⟨by omega, by omega⟩ (nn := nn) (hgnn) ⟨by omega, by omega⟩ (by omega) hI) gs_X12_86 hs_X12_isOpen ⟨(Nat.le_of_ble_eq_true rfl), (Nat.le_of_ble_eq_true rfl)⟩ hl.1 rfl (Nat.le_of_ble_eq_true rfl) ⟨Nat.zero_le _, Nat.zero_le _⟩ dX12_docks_106 (fun r15 N16 H locs hp w => ?_)
          obtain ⟨z17, rfl, bz17, xz17, hMN16⟩ := hp
          rw [hMN16] at w
          refine z_if_eq (tgt := 119) hx hb (by omega) dX12_docks_109 (by decide) (fun c18 => ?_) (fun c18 => ?_)
          · rw [hQ]
            exact e_v F w hr hlocks ⟨hI, hF⟩ dX12_docks_119
          · refine lv_aload_n hx hb dX12_docks_112 rfl (lv_at hl 2 rfl) ?_
            refine lv_iload_n hx hb dX12_docks_113 rfl (lv_at hl 3 rfl) ?_
            refine lv_iload hx hb dX12_docks_114 (lv_at hl 0 rfl) ?_
            refine k_Vv F w (As := [.int (zI t), .int (zI z14)]) (rest := []) (a := 146) (kd_lt (a := 146) (show kd 146 = (12, 0, 0) from rfl) (by decide)) (sh_12 rfl _ _) rfl (q_X12_comes (t := t) ⟨by omega, by omega⟩ (y := z14) ⟨by omega, by omega⟩ (Or.resolve_left xz17 (by omega)) hI) gv_X12_90 hv_X12_comes ⟨(Nat.le_of_ble_eq_true rfl), (Nat.le_of_ble_eq_true rfl)⟩ hl.1 rfl (Nat.le_of_ble_eq_true rfl) ⟨Nat.zero_le _, Nat.zero_le _⟩ dX12_docks_116 (fun N20 H locs hp w => ?_)
            obtain ⟨hIN20, hFN20⟩ := hp
            have hGN20 := Fr.tr hF hFN20 (S := (fun b9 k9 => (b9 = 146 ∧ k9 = 3) ∨ (b9 = 148 ∧ 13 ≤ k9 ∧ k9 ≤ 24))) (fun b k h => by (try dsimp only at h ⊢); rcases h with ⟨rfl, rfl⟩ | ⟨rfl, q1, q2⟩ <;> first | decide | omega)
            have kn22 : N20.1 148 0 = zI nn := (hFN20 148 0 (by first | decide | (dsimp only; first | done | decide | omega) | omega)).trans (hgnn)
            rw [hQ]
            exact e_v F w hr hlocks ⟨hIN20, hGN20⟩ dX12_docks_119
        · rw [hQ]
          exact e_v F w hr hlocks ⟨hI, hF⟩ dX12_docks_65
      · refine lv_aload_n hx hb dX12_docks_25 rfl (lv_at hl 1 rfl) ?_
        refine f_12_2 F w (a := 146) rfl tb_45 dX12_docks_26 ?_
        refine lv_bipush (v := zI 13) hx hb dX12_docks_29 (by decide) ?_
        refine lv_iload_n hx hb dX12_docks_31 rfl (lv_at hl 0 rfl) ?_
        refine z_iadd (z := (v3_14 + 13)) hx hb dX12_docks_32 (by omega) ?_
        refine g_iald F w (a := 148) rfl (j := (13 + Int.toNat v3_14)) (ix_l (t := v3_14) (by omega) (by omega)) (by omega) dX12_docks_33 ?_
        obtain ⟨z23, bz23, ez23⟩ := IvR.ld (k := (13 + Int.toNat v3_14)) hI (wiv_l (a := 148) (k := (13 + Int.toNat v3_14)) (by omega) (by omega)) (show 146 ≤ 148 ∧ 148 < 159 by decide)
        refine r_val ez23 ?_
        refine z_if_ne (tgt := 54) hx hb (by omega) dX12_docks_34 (by decide) (fun c24 => ?_) (fun c24 => ?_)
        · refine lv_aload_n hx hb dX12_docks_54 rfl (lv_at hl 1 rfl) ?_
          refine f_12_2 F w (a := 146) rfl tb_45 dX12_docks_55 ?_
          refine lv_iload_n hx hb dX12_docks_58 rfl (lv_at hl 0 rfl) ?_
          refine k_Si F w (As := [.ref (B + 148), .int (zI v3_14)]) (rest := []) (q_X12_isTone_148 (t := v3_14) ⟨by omega, by omega⟩ (nn := nn) (hgnn) ⟨by omega, by omega⟩  hI) gs_X12_105 hs_X12_isTone ⟨(Nat.le_of_ble_eq_true rfl), (Nat.le_of_ble_eq_true rfl)⟩ hl.1 rfl (Nat.le_of_ble_eq_true rfl) ⟨Nat.zero_le _, Nat.zero_le _⟩ dX12_docks_59 (fun r25 N26 H locs hp w => ?_)
          obtain ⟨z27, rfl, bz27, xz27, hMN26⟩ := hp
          rw [hMN26] at w
          refine z_if_ne (tgt := 66) hx hb (by omega) dX12_docks_62 (by decide) (fun c28 => ?_) (fun c28 => ?_)
          · refine lv_iload_n hx hb dX12_docks_66 rfl (lv_at hl 3 rfl) ?_
            refine z_if_eq (tgt := 85) hx hb (by omega) dX12_docks_67 (by decide) (fun c29 => False.elim (by omega)) (fun c29 => ?_)
            refine lv_aload_n hx hb dX12_docks_70 rfl (lv_at hl 1 rfl) ?_
            refine f_12_2 F w (a := 146) rfl tb_45 dX12_docks_71 ?_
            refine lv_bipush (v := zI 13) hx hb dX12_docks_74 (by decide) ?_
            refine lv_iload_n hx hb dX12_docks_76 rfl (lv_at hl 0 rfl) ?_
            refine z_iadd (z := (v3_14 + 13)) hx hb dX12_docks_77 (by omega) ?_
            refine g_iald F w (a := 148) rfl (j := (13 + Int.toNat v3_14)) (ix_l (t := v3_14) (by omega) (by omega)) (by omega) dX12_docks_78 ?_
            refine r_val (v := zI z23) (ez23) ?_
            refine k_Si F w (As := [.int (zI z23)]) (rest := []) (q_lastOf (x := z23) ⟨by omega, by omega⟩ ) gs_X12_59 hs_X12_lastOf ⟨(Nat.le_of_ble_eq_true rfl), (Nat.le_of_ble_eq_true rfl)⟩ hl.1 rfl (Nat.le_of_ble_eq_true rfl) ⟨Nat.zero_le _, Nat.zero_le _⟩ dX12_docks_79 (fun r30 N31 H locs hp w => ?_)
            obtain ⟨hrz32, hMz32⟩ := hp
            rw [hMz32] at w
            obtain ⟨z32, bz32, xz32, xcz32, ez32⟩ := hig2_ex z23 (by omega)
            refine r_val (hrz32.trans ez32) ?_
            refine lv_goto (tgt := 97) hx hb dX12_docks_82 (by decide) ?_
            refine lv_istore (lv' := [(4, .int (zI z32)), (3, .int (zI v3_14)), (0, .ref (B + 146)), (1, .int (zI t)), (2, .int (zI x))]) hx hb dX12_docks_97 hl (by decide) rfl (fun ls hl => ?_)
            refine lv_aload_n hx hb dX12_docks_99 rfl (lv_at hl 2 rfl) ?_
            refine f_12_2 F w (a := 146) rfl tb_45 dX12_docks_100 ?_
            refine lv_iload_n hx hb dX12_docks_103 rfl (lv_at hl 3 rfl) ?_
            refine lv_iload hx hb dX12_docks_104 (lv_at hl 0 rfl) ?_
            refine k_Si F w (As := [.ref (B + 148), .int (zI t), .int (zI z32)]) (rest := []) (q_isOpen_148 (t := t) ⟨by omega, by omega⟩ (y := z32) ⟨by omega, by omega⟩ (nn := nn) (hgnn) ⟨by omega, by omega⟩ (by omega) hI) gs_X12_86 hs_X12_isOpen ⟨(Nat.le_of_ble_eq_true rfl), (Nat.le_of_ble_eq_true rfl)⟩ hl.1 rfl (Nat.le_of_ble_eq_true rfl) ⟨Nat.zero_le _, Nat.zero_le _⟩ dX12_docks_106 (fun r33 N34 H locs hp w => ?_)
            obtain ⟨z35, rfl, bz35, xz35, hMN34⟩ := hp
            rw [hMN34] at w
            refine z_if_eq (tgt := 119) hx hb (by omega) dX12_docks_109 (by decide) (fun c36 => ?_) (fun c36 => ?_)
            · rw [hQ]
              exact e_v F w hr hlocks ⟨hI, hF⟩ dX12_docks_119
            · refine lv_aload_n hx hb dX12_docks_112 rfl (lv_at hl 2 rfl) ?_
              refine lv_iload_n hx hb dX12_docks_113 rfl (lv_at hl 3 rfl) ?_
              refine lv_iload hx hb dX12_docks_114 (lv_at hl 0 rfl) ?_
              refine k_Vv F w (As := [.int (zI t), .int (zI z32)]) (rest := []) (a := 146) (kd_lt (a := 146) (show kd 146 = (12, 0, 0) from rfl) (by decide)) (sh_12 rfl _ _) rfl (q_X12_comes (t := t) ⟨by omega, by omega⟩ (y := z32) ⟨by omega, by omega⟩ (Or.resolve_left xz35 (by omega)) hI) gv_X12_90 hv_X12_comes ⟨(Nat.le_of_ble_eq_true rfl), (Nat.le_of_ble_eq_true rfl)⟩ hl.1 rfl (Nat.le_of_ble_eq_true rfl) ⟨Nat.zero_le _, Nat.zero_le _⟩ dX12_docks_116 (fun N38 H locs hp w => ?_)
              obtain ⟨hIN38, hFN38⟩ := hp
              have hGN38 := Fr.tr hF hFN38 (S := (fun b9 k9 => (b9 = 146 ∧ k9 = 3) ∨ (b9 = 148 ∧ 13 ≤ k9 ∧ k9 ≤ 24))) (fun b k h => by (try dsimp only at h ⊢); rcases h with ⟨rfl, rfl⟩ | ⟨rfl, q1, q2⟩ <;> first | decide | omega)
              have kn40 : N38.1 148 0 = zI nn := (hFN38 148 0 (by first | decide | (dsimp only; first | done | decide | omega) | omega)).trans (hgnn)
              rw [hQ]
              exact e_v F w hr hlocks ⟨hIN38, hGN38⟩ dX12_docks_119
          · rw [hQ]
            exact e_v F w hr hlocks ⟨hI, hF⟩ dX12_docks_65
        · refine lv_iload_n hx hb dX12_docks_37 rfl (lv_at hl 3 rfl) ?_
          refine z_if_eq (tgt := 47) hx hb (by omega) dX12_docks_38 (by decide) (fun c41 => False.elim (by omega)) (fun c41 => ?_)
          refine lv_iload_n hx hb dX12_docks_41 rfl (lv_at hl 0 rfl) ?_
          refine lv_iconst (v := zI 1) hx hb dX12_docks_42 rfl ?_
          refine z_isub (z := (v3_14 - 1)) hx hb dX12_docks_43 (by omega) ?_
          refine lv_goto (tgt := 50) hx hb dX12_docks_44 (by decide) ?_
          refine lv_istore_n (lv' := [(3, .int (zI (v3_14 - 1))), (0, .ref (B + 146)), (1, .int (zI t)), (2, .int (zI x))]) hx hb dX12_docks_50 rfl hl (by decide) rfl (fun ls hl => ?_)
          refine lv_goto (tgt := 14) hx hb dX12_docks_51 (by decide) ?_
          exact ih14 (v3_14 - 1) (by omega)     (by omega) _ _ _ w (lv_sub hl [0, 1, 2, 3] rfl)
  exact lp14 _ (t - 1) (by omega) (Nat.lt_succ_self _) _ _ _ w (lv_sub hl [0, 1, 2, 3] rfl)
set_option maxRecDepth 4000 in
theorem q_X12_turns {l : Launch} {D : va_G} {B : Nat} {cy : Nat → ClassId} {M : Mem} {t : Int} (ht : 0 ≤ t ∧ t ≤ 11) {x : Int} (hx : (-99) ≤ x ∧ x ≤ 300) (hI : IvR M) : Cv l D B cy yX12_turns cX12_turns 3 0 0 [.ref (B + 146), .int (zI t), .int (zI x)] M (fun M1 => IvR M1 ∧ Fr (fun b9 k9 => (b9 = 146 ∧ k9 = 3) ∨ (b9 = 148 ∧ 2 ≤ k9 ∧ k9 ≤ 12)) M1 M) := by
  refine s_anyQ (by decide) (Nat.le_of_ble_eq_true rfl) ?_
  intro p e s m args below meth c ls Q F hr hlocks hQ w hl
  have F : CallFix p m c cX12_turns 3 s args TB RX12 := F
  have hx := F.1
  have hb := F.2.1
  have hl : lv_has ls 3 [(0, .ref (B + 146)), (1, .int (zI t)), (2, .int (zI x))] := hl
  have hF : Fr (fun b9 k9 => (b9 = 146 ∧ k9 = 3) ∨ (b9 = 148 ∧ 2 ≤ k9 ∧ k9 ≤ 12)) M M := Fr.rf
  refine lv_iload_n hx hb dX12_turns_0 rfl (lv_at hl 1 rfl) ?_
  refine z_if_eq (tgt := 37) hx hb (by omega) dX12_turns_1 (by decide) (fun c1 => ?_) (fun c1 => ?_)
  · rw [hQ]
    exact e_v F w hr hlocks ⟨hI, hF⟩ dX12_turns_37
  · refine lv_aload_n hx hb dX12_turns_4 rfl (lv_at hl 0 rfl) ?_
    refine f_12_2 F w (a := 146) rfl tb_45 dX12_turns_5 ?_
    refine lv_iconst (v := zI 1) hx hb dX12_turns_8 rfl ?_
    refine lv_iload_n hx hb dX12_turns_9 rfl (lv_at hl 1 rfl) ?_
    refine z_iadd (z := (t + 1)) hx hb dX12_turns_10 (by omega) ?_
    refine lv_iconst (v := zI 1) hx hb dX12_turns_11 rfl ?_
    refine z_isub (z := t) hx hb dX12_turns_12 (by omega) ?_
    refine g_iald F w (a := 148) rfl (j := (Int.toNat t)) (ix_z (by omega) (by omega)) (by omega) dX12_turns_13 ?_
    obtain ⟨z2, bz2, ez2⟩ := IvR.ld (k := (Int.toNat t)) hI (wiv_k (a := 148) (k := (Int.toNat t)) (by omega) (by omega)) (show 146 ≤ 148 ∧ 148 < 159 by decide)
    refine r_val ez2 ?_
    refine lv_aload_n hx hb dX12_turns_14 rfl (lv_at hl 0 rfl) ?_
    refine f_12_2 F w (a := 146) rfl tb_45 dX12_turns_15 ?_
    refine lv_iconst (v := zI 1) hx hb dX12_turns_18 rfl ?_
    refine lv_iload_n hx hb dX12_turns_19 rfl (lv_at hl 1 rfl) ?_
    refine z_iadd (z := (t + 1)) hx hb dX12_turns_20 (by omega) ?_
    refine g_iald F w (a := 148) rfl (j := (Int.toNat (t + 1))) (ix_z (by omega) (by omega)) (by omega) dX12_turns_21 ?_
    obtain ⟨z3, bz3, ez3⟩ := IvR.ld (k := (Int.toNat (t + 1))) hI (wiv_k (a := 148) (k := (Int.toNat (t + 1))) (by omega) (by omega)) (show 146 ≤ 148 ∧ 148 < 159 by decide)
    refine r_val ez3 ?_
    refine z_icmp_ne (tgt := 37) hx hb (by omega) (by omega) dX12_turns_22 (by decide) (fun c4 => ?_) (fun c4 => ?_)
    · rw [hQ]
      exact e_v F w hr hlocks ⟨hI, hF⟩ dX12_turns_37
    · refine lv_aload_n hx hb dX12_turns_25 rfl (lv_at hl 0 rfl) ?_
      refine f_12_2 F w (a := 146) rfl tb_45 dX12_turns_26 ?_
      refine lv_iconst (v := zI 1) hx hb dX12_turns_29 rfl ?_
      refine lv_iload_n hx hb dX12_turns_30 rfl (lv_at hl 1 rfl) ?_
      refine z_iadd (z := (t + 1)) hx hb dX12_turns_31 (by omega) ?_
      refine g_iald F w (a := 148) rfl (j := (Int.toNat (t + 1))) (ix_z (by omega) (by omega)) (by omega) dX12_turns_32 ?_
      refine r_val (v := zI z3) (ez3) ?_
      refine lv_iload_n hx hb dX12_turns_33 rfl (lv_at hl 2 rfl) ?_
      refine z_icmp_ne (tgt := 38) hx hb (by omega) (by omega) dX12_turns_34 (by decide) (fun c5 => ?_) (fun c5 => ?_)
      · refine lv_aload_n hx hb dX12_turns_38 rfl (lv_at hl 0 rfl) ?_
        refine f_12_2 F w (a := 146) rfl tb_45 dX12_turns_39 ?_
        refine lv_iconst (v := zI 1) hx hb dX12_turns_42 rfl ?_
        refine lv_iload_n hx hb dX12_turns_43 rfl (lv_at hl 1 rfl) ?_
        refine z_iadd (z := (t + 1)) hx hb dX12_turns_44 (by omega) ?_
        refine lv_iload_n hx hb dX12_turns_45 rfl (lv_at hl 2 rfl) ?_
        refine g_iast F w (a := 148) rfl (j := (Int.toNat (t + 1))) (ix_z (by omega) (by omega)) (by omega) dX12_turns_46 (fun H locs w => ?_)
        refine lv_aload_n hx hb dX12_turns_47 rfl (lv_at hl 0 rfl) ?_
        refine lv_dup hx hb dX12_turns_48 rfl ?_
        refine f_12_3 F w (a := 146) rfl tb_46 dX12_turns_49 ?_
        obtain ⟨z6, bz6, ez6⟩ := IvR.ld (k := 3) (IvR.to hI (a := 148) (k := (Int.toNat (t + 1))) (x := x) (wiv_k (a := 148) (k := (Int.toNat (t + 1))) (by omega) (by omega)) ⟨by omega, by omega⟩ ⟨by decide, by decide, by decide, fun _ => ⟨by omega, by omega⟩⟩) (show ivr 146 3 = ((-2147483648), 2147483647) from rfl) (show 146 ≤ 146 ∧ 146 < 159 by decide)
        refine r_val ez6 ?_
        refine lv_iconst (v := zI 1) hx hb dX12_turns_52 rfl ?_
        obtain ⟨z7, bz7, x0z7, ez7⟩ := add_ex z6 1
        refine lv_iadd hx hb dX12_turns_53 ?_
        refine r_val ez7 ?_
        refine u_12_3 F w (a := 146) rfl tb_46 dX12_turns_54 (fun H locs w => ?_)
        rw [hQ]
        exact e_v F w hr hlocks ⟨(IvR.to (IvR.to hI (a := 148) (k := (Int.toNat (t + 1))) (x := x) (wiv_k (a := 148) (k := (Int.toNat (t + 1))) (by omega) (by omega)) ⟨by omega, by omega⟩ ⟨by decide, by decide, by decide, fun _ => ⟨by omega, by omega⟩⟩) (a := 146) (k := 3) (x := z7) (show ivr 146 3 = ((-2147483648), 2147483647) from rfl) ⟨by omega, by omega⟩ ⟨by decide, by decide, by decide, fun q9 => absurd q9 (by decide)⟩), (Fr.to (Fr.to hF (by first | decide | (dsimp only; first | done | decide | omega) | omega)) (by first | decide | (dsimp only; first | done | decide | omega) | omega))⟩ dX12_turns_57
      · rw [hQ]
        exact e_v F w hr hlocks ⟨hI, hF⟩ dX12_turns_37
theorem dX12_flattens_0 : decode cX12_flattens 0 = .ok (.aload_n 0, 1) := wdX12_flattens_0
theorem dX12_flattens_1 : decode cX12_flattens 1 = .ok (.getfield 17, 3) := wdX12_flattens_1
theorem dX12_flattens_4 : decode cX12_flattens 4 = .ok (.iload_n 1, 1) := wdX12_flattens_4
theorem dX12_flattens_5 : decode cX12_flattens 5 = .ok (.invokestatic 69, 3) := wdX12_flattens_5
theorem dX12_flattens_8 : decode cX12_flattens 8 = .ok (.istore 4, 2) := wdX12_flattens_8
theorem dX12_flattens_10 : decode cX12_flattens 10 = .ok (.iload 4, 2) := wdX12_flattens_10
theorem dX12_flattens_12 : decode cX12_flattens 12 = .ok (.invokestatic 76, 3) := wdX12_flattens_12
theorem dX12_flattens_15 : decode cX12_flattens 15 = .ok (.iload_n 2, 1) := wdX12_flattens_15
theorem dX12_flattens_16 : decode cX12_flattens 16 = .ok (.if_icmp .le 43, 3) := wdX12_flattens_16
theorem dX12_flattens_59 : decode cX12_flattens 59 = .ok (.return_, 1) := wdX12_flattens_59
theorem dX12_flattens_19 : decode cX12_flattens 19 = .ok (.iload_n 3, 1) := wdX12_flattens_19
theorem dX12_flattens_20 : decode cX12_flattens 20 = .ok (.ifCond .eq 11, 3) := wdX12_flattens_20
theorem dX12_flattens_31 : decode cX12_flattens 31 = .ok (.iload 4, 2) := wdX12_flattens_31
theorem dX12_flattens_33 : decode cX12_flattens 33 = .ok (.invokestatic 63, 3) := wdX12_flattens_33
theorem dX12_flattens_36 : decode cX12_flattens 36 = .ok (.istore 5, 2) := wdX12_flattens_36
theorem dX12_flattens_38 : decode cX12_flattens 38 = .ok (.aload_n 0, 1) := wdX12_flattens_38
theorem dX12_flattens_39 : decode cX12_flattens 39 = .ok (.iload 5, 2) := wdX12_flattens_39
theorem dX12_flattens_41 : decode cX12_flattens 41 = .ok (.iload_n 1, 1) := wdX12_flattens_41
theorem dX12_flattens_42 : decode cX12_flattens 42 = .ok (.invokevirtual 102, 3) := wdX12_flattens_42
theorem dX12_flattens_45 : decode cX12_flattens 45 = .ok (.iload 4, 2) := wdX12_flattens_45
theorem dX12_flattens_47 : decode cX12_flattens 47 = .ok (.iconst 1, 1) := wdX12_flattens_47
theorem dX12_flattens_48 : decode cX12_flattens 48 = .ok (.iload 5, 2) := wdX12_flattens_48
theorem dX12_flattens_50 : decode cX12_flattens 50 = .ok (.ishl, 1) := wdX12_flattens_50
theorem dX12_flattens_51 : decode cX12_flattens 51 = .ok (.iconst (-1), 1) := wdX12_flattens_51
theorem dX12_flattens_52 : decode cX12_flattens 52 = .ok (.ixor, 1) := wdX12_flattens_52
theorem dX12_flattens_53 : decode cX12_flattens 53 = .ok (.iand, 1) := wdX12_flattens_53
theorem dX12_flattens_54 : decode cX12_flattens 54 = .ok (.istore 4, 2) := wdX12_flattens_54
theorem dX12_flattens_56 : decode cX12_flattens 56 = .ok (.goto (-46), 3) := wdX12_flattens_56
theorem dX12_flattens_23 : decode cX12_flattens 23 = .ok (.iload 4, 2) := wdX12_flattens_23
theorem dX12_flattens_25 : decode cX12_flattens 25 = .ok (.invokestatic 59, 3) := wdX12_flattens_25
theorem dX12_flattens_28 : decode cX12_flattens 28 = .ok (.goto 8, 3) := wdX12_flattens_28
set_option maxRecDepth 4000 in
theorem q_X12_flattens {l : Launch} {D : va_G} {B : Nat} {cy : Nat → ClassId} {M : Mem} {y : Int} (hy : 0 ≤ y ∧ y ≤ 11) {x : Int} (hx : 0 ≤ x ∧ x ≤ 300) {x1 : Int} (hx1 : 0 ≤ x1 ∧ x1 ≤ 1) (hI : IvR M) : Cv l D B cy yX12_flattens cX12_flattens 6 2 44 [.ref (B + 146), .int (zI y), .int (zI x), .int (zI x1)] M (fun M1 => IvR M1 ∧ Fr (fun b9 k9 => (b9 = 146 ∧ k9 = 3) ∨ (b9 = 148 ∧ 13 ≤ k9 ∧ k9 ≤ 24)) M1 M) := by
  refine s_anyQ (by decide) (Nat.le_of_ble_eq_true rfl) ?_
  intro p e s m args below meth c ls Q F hr hlocks hQ w hl
  have F : CallFix p m c cX12_flattens 6 s args TB RX12 := F
  have hx := F.1
  have hb := F.2.1
  have hl : lv_has ls 6 [(0, .ref (B + 146)), (1, .int (zI y)), (2, .int (zI x)), (3, .int (zI x1))] := hl
  have hF : Fr (fun b9 k9 => (b9 = 146 ∧ k9 = 3) ∨ (b9 = 148 ∧ 13 ≤ k9 ∧ k9 ≤ 24)) M M := Fr.rf
  refine lv_aload_n hx hb dX12_flattens_0 rfl (lv_at hl 0 rfl) ?_
  refine f_12_2 F w (a := 146) rfl tb_45 dX12_flattens_1 ?_
  refine lv_iload_n hx hb dX12_flattens_4 rfl (lv_at hl 1 rfl) ?_
  refine k_Si F w (As := [.ref (B + 148), .int (zI y)]) (rest := []) (q_X12_tonesOf_148 (y := y) ⟨by omega, by omega⟩  hI) gs_X12_69 hs_X12_tonesOf ⟨(Nat.le_of_ble_eq_true rfl), (Nat.le_of_ble_eq_true rfl)⟩ hl.1 rfl (Nat.le_of_ble_eq_true rfl) ⟨Nat.zero_le _, Nat.zero_le _⟩ dX12_flattens_5 (fun r1 N2 H locs hp w => ?_)
  obtain ⟨z3, rfl, bz3, hMN2⟩ := hp
  rw [hMN2] at w
  refine lv_istore (lv' := [(4, .int (zI z3)), (0, .ref (B + 146)), (1, .int (zI y)), (2, .int (zI x)), (3, .int (zI x1))]) hx hb dX12_flattens_8 hl (by decide) rfl (fun ls hl => ?_)
  have lp10 : ∀ (f : Nat) (v4_10 : Int)  (NL10 : Mem), (0 ≤ v4_10 ∧ v4_10 ≤ 4095) → IvR NL10 → Fr (fun b9 k9 => (b9 = 146 ∧ k9 = 3) ∨ (b9 = 148 ∧ 13 ≤ k9 ∧ k9 ≤ 24)) NL10 M → (Int.toNat (v4_10 - 0) < f) → ∀ (H : Heap) (locs : List Loc) (ls : Array Slot), Wd D B cy s s.heap NL10 H locs → lv_has ls 6 [(4, .int (zI v4_10)), (0, .ref (B + 146)), (1, .int (zI y)), (2, .int (zI x)), (3, .int (zI x1))] → W p l e (rmm 2 44) s m args below meth c H locs 0 0 Q (F0 m 10 ls []) := by
    intro f
    induction f with
    | zero => intros; omega
    | succ f ih10 =>
      intro v4_10  NL10 iv4_10 hIL10 hFL10 hf10 H locs ls w hl
      refine lv_iload hx hb dX12_flattens_10 (lv_at hl 0 rfl) ?_
      refine k_Si F w (As := [.int (zI v4_10)]) (rest := []) (q_bitsOf (x := v4_10) ⟨by omega, by omega⟩ ) gs_X12_76 hs_X12_bitsOf ⟨(Nat.le_of_ble_eq_true rfl), (Nat.le_of_ble_eq_true rfl)⟩ hl.1 rfl (Nat.le_of_ble_eq_true rfl) ⟨Nat.zero_le _, Nat.zero_le _⟩ dX12_flattens_12 (fun r4 N5 H locs hp w => ?_)
      obtain ⟨hrz6, hMz6⟩ := hp
      rw [hMz6] at w
      obtain ⟨z6, bz6, xz6, ez6⟩ := pop2_ex v4_10 (by omega)
      refine r_val (hrz6.trans ez6) ?_
      refine lv_iload_n hx hb dX12_flattens_15 rfl (lv_at hl 3 rfl) ?_
      refine z_icmp_le (tgt := 59) hx hb (by omega) (by omega) dX12_flattens_16 (by decide) (fun c7 => ?_) (fun c7 => ?_)
      · rw [hQ]
        exact e_v F w hr hlocks ⟨hIL10, hFL10⟩ dX12_flattens_59
      · refine lv_iload_n hx hb dX12_flattens_19 rfl (lv_at hl 4 rfl) ?_
        refine z_if_eq (tgt := 31) hx hb (by omega) dX12_flattens_20 (by decide) (fun c8 => ?_) (fun c8 => ?_)
        · refine lv_iload hx hb dX12_flattens_31 (lv_at hl 0 rfl) ?_
          refine k_Si F w (As := [.int (zI v4_10)]) (rest := []) (q_firstOf (x := v4_10) ⟨by omega, by omega⟩ ) gs_X12_63 hs_X12_firstOf ⟨(Nat.le_of_ble_eq_true rfl), (Nat.le_of_ble_eq_true rfl)⟩ hl.1 rfl (Nat.le_of_ble_eq_true rfl) ⟨Nat.zero_le _, Nat.zero_le _⟩ dX12_flattens_33 (fun r9 N10 H locs hp w => ?_)
          obtain ⟨hrz11, hMz11⟩ := hp
          rw [hMz11] at w
          obtain ⟨z11, bz11, xz11, xcz11, ez11⟩ := low2_ex v4_10 (by omega)
          refine r_val (hrz11.trans ez11) ?_
          refine lv_istore (lv' := [(5, .int (zI z11)), (4, .int (zI v4_10)), (0, .ref (B + 146)), (1, .int (zI y)), (2, .int (zI x)), (3, .int (zI x1))]) hx hb dX12_flattens_36 hl (by decide) rfl (fun ls hl => ?_)
          refine lv_aload_n hx hb dX12_flattens_38 rfl (lv_at hl 2 rfl) ?_
          refine lv_iload hx hb dX12_flattens_39 (lv_at hl 0 rfl) ?_
          refine lv_iload_n hx hb dX12_flattens_41 rfl (lv_at hl 3 rfl) ?_
          refine k_Vv F w (As := [.int (zI z11), .int (zI y)]) (rest := []) (a := 146) (kd_lt (a := 146) (show kd 146 = (12, 0, 0) from rfl) (by decide)) (sh_12 rfl _ _) rfl (q_X12_goes (t := z11) ⟨by omega, by omega⟩ (y := y) ⟨by omega, by omega⟩  hIL10) gv_X12_102 hv_X12_goes ⟨(Nat.le_of_ble_eq_true rfl), (Nat.le_of_ble_eq_true rfl)⟩ hl.1 rfl (Nat.le_of_ble_eq_true rfl) ⟨Nat.zero_le _, Nat.zero_le _⟩ dX12_flattens_42 (fun N13 H locs hp w => ?_)
          obtain ⟨hIN13, hFN13⟩ := hp
          have hGN13 := Fr.tr hFL10 hFN13 (S := (fun b9 k9 => (b9 = 146 ∧ k9 = 3) ∨ (b9 = 148 ∧ 13 ≤ k9 ∧ k9 ≤ 24))) (fun b k h => by (try dsimp only at h ⊢); rcases h with ⟨rfl, rfl⟩ | ⟨rfl, q1, q2⟩ <;> first | decide | omega)
          refine lv_iload hx hb dX12_flattens_45 (lv_at hl 1 rfl) ?_
          refine lv_iconst (v := zI 1) hx hb dX12_flattens_47 rfl ?_
          refine lv_iload hx hb dX12_flattens_48 (lv_at hl 0 rfl) ?_
          obtain ⟨z15, bz15, x0z15, ez15⟩ := shl_ex 1 z11
          refine lv_ishl hx hb dX12_flattens_50 ?_
          refine r_val ez15 ?_
          refine lv_iconst (v := zI (-1)) hx hb dX12_flattens_51 rfl ?_
          refine lv_ixor hx hb dX12_flattens_52 ?_
          refine r_val (not_ex z15) ?_
          obtain ⟨z16, bz16, x0z16, x1z16, ez16⟩ := and_ex v4_10 (-z15 - 1) (by omega) (by omega)
          refine lv_iand hx hb dX12_flattens_53 ?_
          refine r_val ez16 ?_
          have hclz16 := xcz11 _ _ ez15 ez16 (by omega) (by omega)
          refine lv_istore (lv' := [(4, .int (zI z16)), (5, .int (zI z11)), (0, .ref (B + 146)), (1, .int (zI y)), (2, .int (zI x)), (3, .int (zI x1))]) hx hb dX12_flattens_54 hl (by decide) rfl (fun ls hl => ?_)
          refine lv_goto (tgt := 10) hx hb dX12_flattens_56 (by decide) ?_
          exact ih10 z16 N13 (by omega)    hIN13 hGN13 (by omega) _ _ _ w (lv_sub hl [0, 2, 3, 4, 5] rfl)
        · refine lv_iload hx hb dX12_flattens_23 (lv_at hl 0 rfl) ?_
          refine k_Si F w (As := [.int (zI v4_10)]) (rest := []) (q_lastOf (x := v4_10) ⟨by omega, by omega⟩ ) gs_X12_59 hs_X12_lastOf ⟨(Nat.le_of_ble_eq_true rfl), (Nat.le_of_ble_eq_true rfl)⟩ hl.1 rfl (Nat.le_of_ble_eq_true rfl) ⟨Nat.zero_le _, Nat.zero_le _⟩ dX12_flattens_25 (fun r17 N18 H locs hp w => ?_)
          obtain ⟨hrz19, hMz19⟩ := hp
          rw [hMz19] at w
          obtain ⟨z19, bz19, xz19, xcz19, ez19⟩ := hig2_ex v4_10 (by omega)
          refine r_val (hrz19.trans ez19) ?_
          refine lv_goto (tgt := 36) hx hb dX12_flattens_28 (by decide) ?_
          refine lv_istore (lv' := [(5, .int (zI z19)), (4, .int (zI v4_10)), (0, .ref (B + 146)), (1, .int (zI y)), (2, .int (zI x)), (3, .int (zI x1))]) hx hb dX12_flattens_36 hl (by decide) rfl (fun ls hl => ?_)
          refine lv_aload_n hx hb dX12_flattens_38 rfl (lv_at hl 2 rfl) ?_
          refine lv_iload hx hb dX12_flattens_39 (lv_at hl 0 rfl) ?_
          refine lv_iload_n hx hb dX12_flattens_41 rfl (lv_at hl 3 rfl) ?_
          refine k_Vv F w (As := [.int (zI z19), .int (zI y)]) (rest := []) (a := 146) (kd_lt (a := 146) (show kd 146 = (12, 0, 0) from rfl) (by decide)) (sh_12 rfl _ _) rfl (q_X12_goes (t := z19) ⟨by omega, by omega⟩ (y := y) ⟨by omega, by omega⟩  hIL10) gv_X12_102 hv_X12_goes ⟨(Nat.le_of_ble_eq_true rfl), (Nat.le_of_ble_eq_true rfl)⟩ hl.1 rfl (Nat.le_of_ble_eq_true rfl) ⟨Nat.zero_le _, Nat.zero_le _⟩ dX12_flattens_42 (fun N21 H locs hp w => ?_)
          obtain ⟨hIN21, hFN21⟩ := hp
          have hGN21 := Fr.tr hFL10 hFN21 (S := (fun b9 k9 => (b9 = 146 ∧ k9 = 3) ∨ (b9 = 148 ∧ 13 ≤ k9 ∧ k9 ≤ 24))) (fun b k h => by (try dsimp only at h ⊢); rcases h with ⟨rfl, rfl⟩ | ⟨rfl, q1, q2⟩ <;> first | decide | omega)
          refine lv_iload hx hb dX12_flattens_45 (lv_at hl 1 rfl) ?_
          refine lv_iconst (v := zI 1) hx hb dX12_flattens_47 rfl ?_
          refine lv_iload hx hb dX12_flattens_48 (lv_at hl 0 rfl) ?_
          obtain ⟨z23, bz23, x0z23, ez23⟩ := shl_ex 1 z19
          refine lv_ishl hx hb dX12_flattens_50 ?_
          refine r_val ez23 ?_
          refine lv_iconst (v := zI (-1)) hx hb dX12_flattens_51 rfl ?_
          refine lv_ixor hx hb dX12_flattens_52 ?_
          refine r_val (not_ex z23) ?_
          obtain ⟨z24, bz24, x0z24, x1z24, ez24⟩ := and_ex v4_10 (-z23 - 1) (by omega) (by omega)
          refine lv_iand hx hb dX12_flattens_53 ?_
          refine r_val ez24 ?_
          have hclz24 := xcz19 _ _ ez23 ez24 (by omega) (by omega)
          refine lv_istore (lv' := [(4, .int (zI z24)), (5, .int (zI z19)), (0, .ref (B + 146)), (1, .int (zI y)), (2, .int (zI x)), (3, .int (zI x1))]) hx hb dX12_flattens_54 hl (by decide) rfl (fun ls hl => ?_)
          refine lv_goto (tgt := 10) hx hb dX12_flattens_56 (by decide) ?_
          exact ih10 z24 N21 (by omega)    hIN21 hGN21 (by omega) _ _ _ w (lv_sub hl [0, 2, 3, 4, 5] rfl)
  exact lp10 _ z3 M (by omega) hI hF (Nat.lt_succ_self _) _ _ _ w (lv_sub hl [0, 1, 2, 3, 4] rfl)
