theorem wdX12_writes_0 : decode cX12_writes 0 = .ok (.aload_n 0, 1) := dX12_writes_0
theorem wdX12_writes_1 : decode cX12_writes 1 = .ok (.getfield 42, 3) := dX12_writes_1
theorem wtb_410 : Cond.fieldLink "ToneLinesModel" 42 "ToneLinesModel" "text" "[I" ∈ TB := tb_697
theorem wdX12_writes_4 : decode cX12_writes 4 = .ok (.aload_n 0, 1) := dX12_writes_4
theorem wdX12_writes_5 : decode cX12_writes 5 = .ok (.getfield 291, 3) := dX12_writes_5
theorem wtb_411 : Cond.fieldLink "ToneLinesModel" 291 "ToneLinesModel" "textMany" "I" ∈ TB := tb_698
theorem wdX12_writes_8 : decode cX12_writes 8 = .ok (.iload_n 1, 1) := dX12_writes_8
theorem wdX12_writes_9 : decode cX12_writes 9 = .ok (.iastore, 1) := dX12_writes_9
theorem wdX12_writes_10 : decode cX12_writes 10 = .ok (.aload_n 0, 1) := dX12_writes_10
theorem wdX12_writes_11 : decode cX12_writes 11 = .ok (.dup, 1) := dX12_writes_11
theorem wdX12_writes_12 : decode cX12_writes 12 = .ok (.getfield 291, 3) := dX12_writes_12
theorem wdX12_writes_15 : decode cX12_writes 15 = .ok (.iconst 1, 1) := dX12_writes_15
theorem wdX12_writes_16 : decode cX12_writes 16 = .ok (.iadd, 1) := dX12_writes_16
theorem wdX12_writes_17 : decode cX12_writes 17 = .ok (.putfield 291, 3) := dX12_writes_17
theorem wdX12_writes_20 : decode cX12_writes 20 = .ok (.return_, 1) := dX12_writes_20
set_option maxRecDepth 4000 in
theorem k_writes {l : Launch} {D : va_G} {B : Nat} {cy : Nat → ClassId} {M : Mem} {tx : List Nat} (hT : isTy M tx) (hl9 : tx.length < 260) {c9 : Nat} (hc9 : c9 < 128) : Cv l D B cy yX12_writes cX12_writes 2 0 0 [.ref (B + 146), .int (zI (c9 : Int))] M (fun M1 => isTy M1 (tx ++ [c9]) ∧ FrZ M1 M) := by
  refine s_any (by decide) (Nat.le_of_ble_eq_true rfl) ?_
  intro p e s m below meth c ls F hr hlocks w hl
  have F : CallFix p m c cX12_writes 2 s _ TB RX12 := F
  have hx := F.1
  have hb := F.2.1
  have hl : lv_has ls 2 [(0, .ref (B + 146)), (1, .int (zI (c9 : Int)))] := hl
  refine lv_aload_n hx hb wdX12_writes_0 rfl (lv_at hl 0 rfl) ?_
  refine f_12_21 F w (a := 146) rfl wtb_410 wdX12_writes_1 ?_
  refine lv_aload_n hx hb wdX12_writes_4 rfl (lv_at hl 0 rfl) ?_
  refine f_12_22 F w (a := 146) rfl wtb_411 wdX12_writes_5 ?_
  refine r_val (v := (zI ((tx.length : Nat) : Int))) (hT.1) ?_
  refine lv_iload_n hx hb wdX12_writes_8 rfl (lv_at hl 1 rfl) ?_
  refine g_iast F w (a := 156) rfl (j := tx.length) (ix_n (by omega)) (by omega) wdX12_writes_9 (fun H locs w => ?_)
  refine lv_aload_n hx hb wdX12_writes_10 rfl (lv_at hl 0 rfl) ?_
  refine lv_dup hx hb wdX12_writes_11 rfl ?_
  refine f_12_22 F w (a := 146) rfl wtb_411 wdX12_writes_12 ?_
  refine r_val (v := (zI ((tx.length : Nat) : Int))) ((st_ne (Or.inl (by omega))).trans (hT.1)) ?_
  refine lv_iconst (v := zI 1) hx hb wdX12_writes_15 rfl ?_
  refine z_iadd (z := (((tx.length + 1) : Nat) : Int)) hx hb wdX12_writes_16 (by omega) ?_
  refine u_12_22 F w (a := 146) rfl wtb_411 wdX12_writes_17 (fun H locs w => ?_)
  exact e_v F w hr hlocks ⟨hT.put, FrZ.p⟩ wdX12_writes_20
theorem wdX12_writesNumber_0 : decode cX12_writesNumber 0 = .ok (.iload_n 1, 1) := dX12_writesNumber_0
theorem wdX12_writesNumber_1 : decode cX12_writesNumber 1 = .ok (.bipush 9, 2) := dX12_writesNumber_1
theorem wdX12_writesNumber_3 : decode cX12_writesNumber 3 = .ok (.if_icmp .le 9, 3) := dX12_writesNumber_3
theorem wdX12_writesNumber_12 : decode cX12_writesNumber 12 = .ok (.aload_n 0, 1) := dX12_writesNumber_12
theorem wdX12_writesNumber_13 : decode cX12_writesNumber 13 = .ok (.bipush 48, 2) := dX12_writesNumber_13
theorem wdX12_writesNumber_15 : decode cX12_writesNumber 15 = .ok (.iload_n 1, 1) := dX12_writesNumber_15
theorem wdX12_writesNumber_16 : decode cX12_writesNumber 16 = .ok (.bipush 10, 2) := dX12_writesNumber_16
theorem wdX12_writesNumber_18 : decode cX12_writesNumber 18 = .ok (.irem, 1) := dX12_writesNumber_18
theorem wdX12_writesNumber_19 : decode cX12_writesNumber 19 = .ok (.iadd, 1) := dX12_writesNumber_19
theorem wdX12_writesNumber_20 : decode cX12_writesNumber 20 = .ok (.invokevirtual 294, 3) := dX12_writesNumber_20
theorem wtk_X12_writes : Cond.code yX12_writes cX12_writes 2 none ∈ TB := tk_X12_writes
theorem wgc_X12_writes : GoodIn TB (cw yX12_writes cX12_writes 2 none) := goodIn_c2 wtk_X12_writes
theorem wtb_412 : Cond.methodLink "ToneLinesModel" 294 yX12_writes ∈ TB := tb_699
theorem wtb_413 : Cond.instanceMethod yX12_writes ∈ TB := tb_700
theorem wtb_414 : Cond.selects "ToneLinesModel" yX12_writes yX12_writes ∈ TB := tb_701
theorem wgv_X12_294 : GoodIn TB (wsV RX12 294 RX12 yX12_writes (cw yX12_writes cX12_writes 2 none)) := goodIn_4 wtb_412 wtb_413 wtb_414 wtb_105 wgc_X12_writes
theorem whv_X12_writes : yX12_writes.cls = RX12 ∧ yX12_writes.cls ≠ "java/lang/invoke/MethodHandle" ∧ yX12_writes.cls ≠ "java/lang/invoke/VarHandle" ∧ (parseMethodDescriptor yX12_writes.desc).map (fun d => d.parameters.length) = some 1 := hv_X12_writes
theorem wdX12_writesNumber_23 : decode cX12_writesNumber 23 = .ok (.return_, 1) := dX12_writesNumber_23
theorem wdX12_writesNumber_6 : decode cX12_writesNumber 6 = .ok (.aload_n 0, 1) := dX12_writesNumber_6
theorem wdX12_writesNumber_7 : decode cX12_writesNumber 7 = .ok (.bipush 49, 2) := dX12_writesNumber_7
theorem wdX12_writesNumber_9 : decode cX12_writesNumber 9 = .ok (.invokevirtual 294, 3) := dX12_writesNumber_9
set_option maxRecDepth 4000 in
theorem k_writesNumber {l : Launch} {D : va_G} {B : Nat} {cy : Nat → ClassId} {M : Mem} {tx : List Nat} (hT : isTy M tx) (hl9 : tx.length + 2 ≤ 260) {v9 : Nat} (hv9 : v9 < 12) : Cv l D B cy yX12_writesNumber cX12_writesNumber 2 1 21 [.ref (B + 146), .int (zI (v9 : Int))] M (fun M1 => isTy M1 (tx ++ nmT v9) ∧ FrZ M1 M) := by
  refine s_any (by decide) (Nat.le_of_ble_eq_true rfl) ?_
  intro p e s m below meth c ls F hr hlocks w hl
  have F : CallFix p m c cX12_writesNumber 2 s _ TB RX12 := F
  have hx := F.1
  have hb := F.2.1
  have hl : lv_has ls 2 [(0, .ref (B + 146)), (1, .int (zI (v9 : Int)))] := hl
  refine lv_iload_n hx hb wdX12_writesNumber_0 rfl (lv_at hl 1 rfl) ?_
  refine lv_bipush (v := zI 9) hx hb wdX12_writesNumber_1 (by decide) ?_
  refine z_icmp_le (tgt := 12) hx hb (by omega) (by omega) wdX12_writesNumber_3 (by decide) (fun c1 => ?_) (fun c1 => ?_)
  · refine lv_aload_n hx hb wdX12_writesNumber_12 rfl (lv_at hl 0 rfl) ?_
    refine lv_bipush (v := zI 48) hx hb wdX12_writesNumber_13 (by decide) ?_
    refine lv_iload_n hx hb wdX12_writesNumber_15 rfl (lv_at hl 1 rfl) ?_
    refine lv_bipush (v := zI 10) hx hb wdX12_writesNumber_16 (by decide) ?_
    refine lv_irem hx hb wdX12_writesNumber_18 (nz_z (by omega) (by omega)) ?_
    refine r_val (v := zI (((v9 % 10) : Nat) : Int)) (rem_zI (by omega) (by omega)) ?_
    refine z_iadd (z := (((48 + (v9 % 10)) : Nat) : Int)) hx hb wdX12_writesNumber_19 (by omega) ?_
    refine k_Vv F w (As := [.int (zI (((48 + (v9 % 10)) : Nat) : Int))]) (rest := []) (a := 146) (kd_lt (a := 146) (show kd 146 = (12, 0, 0) from rfl) (by decide)) (sh_12 rfl _ _) rfl (k_writes (tx := tx) hT (by omega) (c9 := (48 + (v9 % 10))) (by omega)) wgv_X12_294 whv_X12_writes ⟨(Nat.le_of_ble_eq_true rfl), (Nat.le_of_ble_eq_true rfl)⟩ hl.1 rfl (Nat.le_of_ble_eq_true rfl) ⟨Nat.zero_le _, Nat.zero_le _⟩ wdX12_writesNumber_20 (fun Ma2 H locs hp w => ?_)
    rcases hp with ⟨hT1, hF1⟩
    have hL1 : (tx ++ [(48 + (v9 % 10))]).length = (tx).length + 1 := len1
    have hG1 : FrZ Ma2 M := hF1
    exact e_v F w hr hlocks ⟨by rw [nmT_lt (by omega)]; exact hT1, hG1⟩ wdX12_writesNumber_23
  · refine lv_aload_n hx hb wdX12_writesNumber_6 rfl (lv_at hl 0 rfl) ?_
    refine lv_bipush (v := zI 49) hx hb wdX12_writesNumber_7 (by decide) ?_
    refine k_Vv F w (As := [.int (zI 49)]) (rest := []) (a := 146) (kd_lt (a := 146) (show kd 146 = (12, 0, 0) from rfl) (by decide)) (sh_12 rfl _ _) rfl (k_writes (tx := tx) hT (by omega) (c9 := 49) (by omega)) wgv_X12_294 whv_X12_writes ⟨(Nat.le_of_ble_eq_true rfl), (Nat.le_of_ble_eq_true rfl)⟩ hl.1 rfl (Nat.le_of_ble_eq_true rfl) ⟨Nat.zero_le _, Nat.zero_le _⟩ wdX12_writesNumber_9 (fun Ma3 H locs hp w => ?_)
    rcases hp with ⟨hT1, hF1⟩
    have hL1 : (tx ++ [49]).length = (tx).length + 1 := len1
    have hG1 : FrZ Ma3 M := hF1
    refine lv_aload_n hx hb wdX12_writesNumber_12 rfl (lv_at hl 0 rfl) ?_
    refine lv_bipush (v := zI 48) hx hb wdX12_writesNumber_13 (by decide) ?_
    refine lv_iload_n hx hb wdX12_writesNumber_15 rfl (lv_at hl 1 rfl) ?_
    refine lv_bipush (v := zI 10) hx hb wdX12_writesNumber_16 (by decide) ?_
    refine lv_irem hx hb wdX12_writesNumber_18 (nz_z (by omega) (by omega)) ?_
    refine r_val (v := zI (((v9 % 10) : Nat) : Int)) (rem_zI (by omega) (by omega)) ?_
    refine z_iadd (z := (((48 + (v9 % 10)) : Nat) : Int)) hx hb wdX12_writesNumber_19 (by omega) ?_
    refine k_Vv F w (As := [.int (zI (((48 + (v9 % 10)) : Nat) : Int))]) (rest := []) (a := 146) (kd_lt (a := 146) (show kd 146 = (12, 0, 0) from rfl) (by decide)) (sh_12 rfl _ _) rfl (k_writes (tx := (tx ++ [49])) hT1 (by omega) (c9 := (48 + (v9 % 10))) (by omega)) wgv_X12_294 whv_X12_writes ⟨(Nat.le_of_ble_eq_true rfl), (Nat.le_of_ble_eq_true rfl)⟩ hl.1 rfl (Nat.le_of_ble_eq_true rfl) ⟨Nat.zero_le _, Nat.zero_le _⟩ wdX12_writesNumber_20 (fun Ma4 H locs hp w => ?_)
    rcases hp with ⟨hT2, hF2⟩
    have hL2 : ((tx ++ [49]) ++ [(48 + (v9 % 10))]).length = ((tx ++ [49])).length + 1 := len1
    have hG2 : FrZ Ma4 M := FrZ.tr hG1 hF2
    exact e_v F w hr hlocks ⟨by rw [nmT_ge (by omega), ← List.append_assoc, show 48 + v9 / 10 = 49 by omega]; exact hT2, hG2⟩ wdX12_writesNumber_23
theorem wdX12_writesWord_7 : decode cX12_writesWord 7 = .ok (.iload_n 1, 1) := dX12_writesWord_7
theorem wdX12_writesWord_8 : decode cX12_writesWord 8 = .ok (.aload_n 0, 1) := dX12_writesWord_8
theorem wdX12_writesWord_9 : decode cX12_writesWord 9 = .ok (.getfield 17, 3) := dX12_writesWord_9
theorem wdX12_writesWord_12 : decode cX12_writesWord 12 = .ok (.iconst 0, 1) := dX12_writesWord_12
theorem wdX12_writesWord_13 : decode cX12_writesWord 13 = .ok (.iaload, 1) := dX12_writesWord_13
theorem wdX12_writesWord_14 : decode cX12_writesWord 14 = .ok (.if_icmp .ge 48, 3) := dX12_writesWord_14
theorem wdX12_writesWord_17 : decode cX12_writesWord 17 = .ok (.aload_n 0, 1) := dX12_writesWord_17
theorem wdX12_writesWord_18 : decode cX12_writesWord 18 = .ok (.aload_n 0, 1) := dX12_writesWord_18
theorem wdX12_writesWord_19 : decode cX12_writesWord 19 = .ok (.getfield 17, 3) := dX12_writesWord_19
theorem wdX12_writesWord_22 : decode cX12_writesWord 22 = .ok (.iconst 1, 1) := dX12_writesWord_22
theorem wdX12_writesWord_23 : decode cX12_writesWord 23 = .ok (.iload_n 1, 1) := dX12_writesWord_23
theorem wdX12_writesWord_24 : decode cX12_writesWord 24 = .ok (.iadd, 1) := dX12_writesWord_24
theorem wdX12_writesWord_25 : decode cX12_writesWord 25 = .ok (.iaload, 1) := dX12_writesWord_25
theorem wdX12_writesWord_26 : decode cX12_writesWord 26 = .ok (.ifCond .ne 8, 3) := dX12_writesWord_26
theorem wdX12_writesWord_34 : decode cX12_writesWord 34 = .ok (.aload_n 0, 1) := dX12_writesWord_34
theorem wdX12_writesWord_35 : decode cX12_writesWord 35 = .ok (.getfield 17, 3) := dX12_writesWord_35
theorem wdX12_writesWord_38 : decode cX12_writesWord 38 = .ok (.iconst 1, 1) := dX12_writesWord_38
theorem wdX12_writesWord_39 : decode cX12_writesWord 39 = .ok (.iload_n 1, 1) := dX12_writesWord_39
theorem wdX12_writesWord_40 : decode cX12_writesWord 40 = .ok (.iadd, 1) := dX12_writesWord_40
theorem wdX12_writesWord_41 : decode cX12_writesWord 41 = .ok (.iaload, 1) := dX12_writesWord_41
theorem wdX12_writesWord_42 : decode cX12_writesWord 42 = .ok (.iconst 2, 1) := dX12_writesWord_42
theorem wdX12_writesWord_43 : decode cX12_writesWord 43 = .ok (.if_icmp .ne 8, 3) := dX12_writesWord_43
theorem wdX12_writesWord_51 : decode cX12_writesWord 51 = .ok (.bipush 109, 2) := dX12_writesWord_51
theorem wdX12_writesWord_53 : decode cX12_writesWord 53 = .ok (.invokevirtual 294, 3) := dX12_writesWord_53
theorem wdX12_writesWord_56 : decode cX12_writesWord 56 = .ok (.iinc 1 1, 3) := dX12_writesWord_56
theorem wdX12_writesWord_59 : decode cX12_writesWord 59 = .ok (.goto (-52), 3) := dX12_writesWord_59
theorem wdX12_writesWord_46 : decode cX12_writesWord 46 = .ok (.bipush 104, 2) := dX12_writesWord_46
theorem wdX12_writesWord_48 : decode cX12_writesWord 48 = .ok (.goto 5, 3) := dX12_writesWord_48
theorem wdX12_writesWord_29 : decode cX12_writesWord 29 = .ok (.bipush 108, 2) := dX12_writesWord_29
theorem wdX12_writesWord_31 : decode cX12_writesWord 31 = .ok (.goto 22, 3) := dX12_writesWord_31
set_option maxRecDepth 4000 in
theorem lp_X12_ww1 {p : Program} {l : Launch} {e : Env} {s : State} {m : MethodId} {args : Array Value} {below : List Frame} {meth : Method} {c : Code} {D : va_G} {B : Nat} {cy : Nat → ClassId} {H0 : Heap} {Q : State → Prop} {M : Mem} {R : Room} {q hv ed : Nat} {o : Wo} {z9 : Int} (F : CallFix p m c cX12_writesWord 4 s args TB RX12) (hR1 : 1 ≤ R.frames) (hR2 : 21 ≤ R.locals) (hR : RW M q hv ed o z9) (kk : ∀ (t : Nat) (Nm : Mem) (H : Heap) (locs : List Loc) (ls : Array Slot), (isTy Nm (tT o.2.1 o.1)) → (FrZ Nm M) → Wd D B cy s H0 Nm H locs → lv_has ls 4 [(0, .ref (B + 146))] → W p l e R s m args below meth c H locs 0 0 Q (F0 m 62 ls [])) : ∀ (f : Nat) (t : Nat) (Nm : Mem), (t ≤ o.1) → (isTy Nm (tT o.2.1 t)) → (FrZ Nm M) → (o.1 ≤ t + f) → ∀ (H : Heap) (locs : List Loc) (ls : Array Slot), Wd D B cy s H0 Nm H locs → lv_has ls 4 [(1, .int (zI (t : Int))), (0, .ref (B + 146))] → W p l e R s m args below meth c H locs 0 0 Q (F0 m 7 ls []) := by
  have hx := F.1
  have hb := F.2.1
  have hW := hR.1
  have hwf := hR.wf
  have hKL := hwf.2.2.2.2
  have hn12 := hwf.1
  have hq12 := hwf.2.1
  have hhv := hwf.2.2.1
  have hed := hwf.2.2.2.1
  have hc := hR.2.2.2.2
  intro f
  induction f with
  | zero =>
    intro t Nm i0 i1 i2 hf H locs ls w hl
    have hL9 := tT_len (K := o.2.1) t
    refine lv_iload_n hx hb wdX12_writesWord_7 rfl (lv_at hl 0 rfl) ?_
    refine lv_aload_n hx hb wdX12_writesWord_8 rfl (lv_at hl 1 rfl) ?_
    refine f_12_2 F w (a := 146) rfl wtb_102 wdX12_writesWord_9 ?_
    refine lv_iconst (v := zI 0) hx hb wdX12_writesWord_12 rfl ?_
    refine g_iald F w (a := 148) rfl (j := 0) ⟨by decide, by decide⟩ (by omega) wdX12_writesWord_13 ?_
    refine r_val (v := (zI ((o.1 : Nat) : Int))) ((hR.tz i2).1.1) ?_
    refine z_icmp_ge (tgt := 62) hx hb (by omega) (by omega) wdX12_writesWord_14 (by decide) (fun c1 => ?_) (fun c1 => False.elim (by omega))
    exact kk t Nm _ _ ls (by have h9 := i1; rw [show t = o.1 by omega] at h9; exact h9) i2 w (lv_sub hl [1] rfl)
  | succ f ih =>
    intro t Nm i0 i1 i2 hf H locs ls w hl
    have hL9 := tT_len (K := o.2.1) t
    refine lv_iload_n hx hb wdX12_writesWord_7 rfl (lv_at hl 0 rfl) ?_
    refine lv_aload_n hx hb wdX12_writesWord_8 rfl (lv_at hl 1 rfl) ?_
    refine f_12_2 F w (a := 146) rfl wtb_102 wdX12_writesWord_9 ?_
    refine lv_iconst (v := zI 0) hx hb wdX12_writesWord_12 rfl ?_
    refine g_iald F w (a := 148) rfl (j := 0) ⟨by decide, by decide⟩ (by omega) wdX12_writesWord_13 ?_
    refine r_val (v := (zI ((o.1 : Nat) : Int))) ((hR.tz i2).1.1) ?_
    refine z_icmp_ge (tgt := 62) hx hb (by omega) (by omega) wdX12_writesWord_14 (by decide) (fun c1 => ?_) (fun c1 => ?_)
    · exact kk t Nm _ _ ls (by have h9 := i1; rw [show t = o.1 by omega] at h9; exact h9) i2 w (lv_sub hl [1] rfl)
    · refine lv_aload_n hx hb wdX12_writesWord_17 rfl (lv_at hl 1 rfl) ?_
      refine lv_aload_n hx hb wdX12_writesWord_18 rfl (lv_at hl 1 rfl) ?_
      refine f_12_2 F w (a := 146) rfl wtb_102 wdX12_writesWord_19 ?_
      refine lv_iconst (v := zI 1) hx hb wdX12_writesWord_22 rfl ?_
      refine lv_iload_n hx hb wdX12_writesWord_23 rfl (lv_at hl 0 rfl) ?_
      refine z_iadd (z := (((1 + t) : Nat) : Int)) hx hb wdX12_writesWord_24 (by omega) ?_
      refine g_iald F w (a := 148) rfl (j := (1 + t)) (ix_n (by omega)) (by omega) wdX12_writesWord_25 ?_
      have hK1 := (hKL t (by omega)).1
      refine r_val (v := (zI (((o.2.1 t) : Nat) : Int))) ((hR.tz i2).1.2.2.2.2.1 t (by omega)) ?_
      refine z_if_ne (tgt := 34) hx hb (by omega) wdX12_writesWord_26 (by decide) (fun c2 => ?_) (fun c2 => ?_)
      · refine lv_aload_n hx hb wdX12_writesWord_34 rfl (lv_at hl 1 rfl) ?_
        refine f_12_2 F w (a := 146) rfl wtb_102 wdX12_writesWord_35 ?_
        refine lv_iconst (v := zI 1) hx hb wdX12_writesWord_38 rfl ?_
        refine lv_iload_n hx hb wdX12_writesWord_39 rfl (lv_at hl 0 rfl) ?_
        refine z_iadd (z := (((1 + t) : Nat) : Int)) hx hb wdX12_writesWord_40 (by omega) ?_
        refine g_iald F w (a := 148) rfl (j := (1 + t)) (ix_n (by omega)) (by omega) wdX12_writesWord_41 ?_
        have hK2 := (hKL t (by omega)).1
        refine r_val (v := (zI (((o.2.1 t) : Nat) : Int))) ((hR.tz i2).1.2.2.2.2.1 t (by omega)) ?_
        refine lv_iconst (v := zI 2) hx hb wdX12_writesWord_42 rfl ?_
        refine z_icmp_ne (tgt := 51) hx hb (by omega) (by omega) wdX12_writesWord_43 (by decide) (fun c3 => ?_) (fun c3 => ?_)
        · refine lv_bipush (v := zI 109) hx hb wdX12_writesWord_51 (by decide) ?_
          refine k_Vv F w (As := [.int (zI 109)]) (rest := []) (a := 146) (kd_lt (a := 146) (show kd 146 = (12, 0, 0) from rfl) (by decide)) (sh_12 rfl _ _) rfl (k_writes (tx := (tT o.2.1 t)) i1 (by omega) (c9 := 109) (by omega)) wgv_X12_294 whv_X12_writes ⟨(by omega), (by omega)⟩ hl.1 rfl (Nat.le_of_ble_eq_true rfl) ⟨Nat.zero_le _, Nat.zero_le _⟩ wdX12_writesWord_53 (fun Ma5 H locs hp w => ?_)
          rcases hp with ⟨hTp4, hFp4⟩
          have hLp4 : ((tT o.2.1 t) ++ [109]).length = ((tT o.2.1 t)).length + 1 := len1
          have hGp4 : FrZ Ma5 M := FrZ.tr i2 hFp4
          refine z_iinc (v := (((t + 1) : Nat) : Int)) (lv' := [(1, .int (zI (((t + 1) : Nat) : Int))), (0, .ref (B + 146))]) hx hb wdX12_writesWord_56 hl (k := 0) rfl (by omega) (by decide) rfl (fun ls hl => ?_)
          refine lv_goto (tgt := 7) hx hb wdX12_writesWord_59 (by decide) ?_
          exact ih (t + 1) Ma5 (by omega) (by rw [← tT_1 (by omega) (by omega)]; exact hTp4) hGp4 (by omega) _ _ ls w (lv_sub hl [0, 1] rfl)
        · refine lv_bipush (v := zI 104) hx hb wdX12_writesWord_46 (by decide) ?_
          refine lv_goto (tgt := 53) hx hb wdX12_writesWord_48 (by decide) ?_
          refine k_Vv F w (As := [.int (zI 104)]) (rest := []) (a := 146) (kd_lt (a := 146) (show kd 146 = (12, 0, 0) from rfl) (by decide)) (sh_12 rfl _ _) rfl (k_writes (tx := (tT o.2.1 t)) i1 (by omega) (c9 := 104) (by omega)) wgv_X12_294 whv_X12_writes ⟨(by omega), (by omega)⟩ hl.1 rfl (Nat.le_of_ble_eq_true rfl) ⟨Nat.zero_le _, Nat.zero_le _⟩ wdX12_writesWord_53 (fun Ma7 H locs hp w => ?_)
          rcases hp with ⟨hTp6, hFp6⟩
          have hLp6 : ((tT o.2.1 t) ++ [104]).length = ((tT o.2.1 t)).length + 1 := len1
          have hGp6 : FrZ Ma7 M := FrZ.tr i2 hFp6
          refine z_iinc (v := (((t + 1) : Nat) : Int)) (lv' := [(1, .int (zI (((t + 1) : Nat) : Int))), (0, .ref (B + 146))]) hx hb wdX12_writesWord_56 hl (k := 0) rfl (by omega) (by decide) rfl (fun ls hl => ?_)
          refine lv_goto (tgt := 7) hx hb wdX12_writesWord_59 (by decide) ?_
          exact ih (t + 1) Ma7 (by omega) (by rw [← tT_2 (by omega)]; exact hTp6) hGp6 (by omega) _ _ ls w (lv_sub hl [0, 1] rfl)
      · refine lv_bipush (v := zI 108) hx hb wdX12_writesWord_29 (by decide) ?_
        refine lv_goto (tgt := 53) hx hb wdX12_writesWord_31 (by decide) ?_
        refine k_Vv F w (As := [.int (zI 108)]) (rest := []) (a := 146) (kd_lt (a := 146) (show kd 146 = (12, 0, 0) from rfl) (by decide)) (sh_12 rfl _ _) rfl (k_writes (tx := (tT o.2.1 t)) i1 (by omega) (c9 := 108) (by omega)) wgv_X12_294 whv_X12_writes ⟨(by omega), (by omega)⟩ hl.1 rfl (Nat.le_of_ble_eq_true rfl) ⟨Nat.zero_le _, Nat.zero_le _⟩ wdX12_writesWord_53 (fun Ma9 H locs hp w => ?_)
        rcases hp with ⟨hTp8, hFp8⟩
        have hLp8 : ((tT o.2.1 t) ++ [108]).length = ((tT o.2.1 t)).length + 1 := len1
        have hGp8 : FrZ Ma9 M := FrZ.tr i2 hFp8
        refine z_iinc (v := (((t + 1) : Nat) : Int)) (lv' := [(1, .int (zI (((t + 1) : Nat) : Int))), (0, .ref (B + 146))]) hx hb wdX12_writesWord_56 hl (k := 0) rfl (by omega) (by decide) rfl (fun ls hl => ?_)
        refine lv_goto (tgt := 7) hx hb wdX12_writesWord_59 (by decide) ?_
        exact ih (t + 1) Ma9 (by omega) (by rw [← tT_0 (by omega)]; exact hTp8) hGp8 (by omega) _ _ ls w (lv_sub hl [0, 1] rfl)
theorem wdX12_writesWord_70 : decode cX12_writesWord 70 = .ok (.iload_n 1, 1) := dX12_writesWord_70
theorem wdX12_writesWord_71 : decode cX12_writesWord 71 = .ok (.aload_n 0, 1) := dX12_writesWord_71
theorem wdX12_writesWord_72 : decode cX12_writesWord 72 = .ok (.getfield 17, 3) := dX12_writesWord_72
theorem wdX12_writesWord_75 : decode cX12_writesWord 75 = .ok (.bipush 25, 2) := dX12_writesWord_75
theorem wdX12_writesWord_77 : decode cX12_writesWord 77 = .ok (.iaload, 1) := dX12_writesWord_77
theorem wdX12_writesWord_78 : decode cX12_writesWord 78 = .ok (.if_icmp .ge 54, 3) := dX12_writesWord_78
theorem wdX12_writesWord_81 : decode cX12_writesWord 81 = .ok (.aload_n 0, 1) := dX12_writesWord_81
theorem wdX12_writesWord_82 : decode cX12_writesWord 82 = .ok (.getfield 17, 3) := dX12_writesWord_82
theorem wdX12_writesWord_85 : decode cX12_writesWord 85 = .ok (.bipush 27, 2) := dX12_writesWord_85
theorem wdX12_writesWord_87 : decode cX12_writesWord 87 = .ok (.iaload, 1) := dX12_writesWord_87
theorem wdX12_writesWord_88 : decode cX12_writesWord 88 = .ok (.iload_n 1, 1) := dX12_writesWord_88
theorem wdX12_writesWord_89 : decode cX12_writesWord 89 = .ok (.invokestatic 51, 3) := dX12_writesWord_89
theorem wdX12_writesWord_92 : decode cX12_writesWord 92 = .ok (.ifCond .eq 9, 3) := dX12_writesWord_92
theorem wdX12_writesWord_95 : decode cX12_writesWord 95 = .ok (.aload_n 0, 1) := dX12_writesWord_95
theorem wdX12_writesWord_96 : decode cX12_writesWord 96 = .ok (.bipush 45, 2) := dX12_writesWord_96
theorem wdX12_writesWord_98 : decode cX12_writesWord 98 = .ok (.invokevirtual 294, 3) := dX12_writesWord_98
theorem wdX12_writesWord_101 : decode cX12_writesWord 101 = .ok (.aload_n 0, 1) := dX12_writesWord_101
theorem wdX12_writesWord_102 : decode cX12_writesWord 102 = .ok (.aload_n 0, 1) := dX12_writesWord_102
theorem wdX12_writesWord_103 : decode cX12_writesWord 103 = .ok (.getfield 17, 3) := dX12_writesWord_103
theorem wdX12_writesWord_106 : decode cX12_writesWord 106 = .ok (.bipush 26, 2) := dX12_writesWord_106
theorem wdX12_writesWord_108 : decode cX12_writesWord 108 = .ok (.iaload, 1) := dX12_writesWord_108
theorem wdX12_writesWord_109 : decode cX12_writesWord 109 = .ok (.iload_n 1, 1) := dX12_writesWord_109
theorem wdX12_writesWord_110 : decode cX12_writesWord 110 = .ok (.invokestatic 51, 3) := dX12_writesWord_110
theorem wdX12_writesWord_113 : decode cX12_writesWord 113 = .ok (.ifCond .eq 8, 3) := dX12_writesWord_113
theorem wdX12_writesWord_116 : decode cX12_writesWord 116 = .ok (.bipush 79, 2) := dX12_writesWord_116
theorem wdX12_writesWord_118 : decode cX12_writesWord 118 = .ok (.goto 5, 3) := dX12_writesWord_118
theorem wdX12_writesWord_123 : decode cX12_writesWord 123 = .ok (.invokevirtual 294, 3) := dX12_writesWord_123
theorem wdX12_writesWord_126 : decode cX12_writesWord 126 = .ok (.iinc 1 1, 3) := dX12_writesWord_126
theorem wdX12_writesWord_129 : decode cX12_writesWord 129 = .ok (.goto (-59), 3) := dX12_writesWord_129
theorem wdX12_writesWord_121 : decode cX12_writesWord 121 = .ok (.bipush 111, 2) := dX12_writesWord_121
set_option maxRecDepth 4000 in
theorem lp_X12_ww2 {p : Program} {l : Launch} {e : Env} {s : State} {m : MethodId} {args : Array Value} {below : List Frame} {meth : Method} {c : Code} {D : va_G} {B : Nat} {cy : Nat → ClassId} {H0 : Heap} {Q : State → Prop} {M : Mem} {R : Room} {q hv ed : Nat} {o : Wo} {z9 : Int} (F : CallFix p m c cX12_writesWord 4 s args TB RX12) (hR1 : 1 ≤ R.frames) (hR2 : 21 ≤ R.locals) (hR : RW M q hv ed o z9) (kk : ∀ (sy : Nat) (Nm : Mem) (H : Heap) (locs : List Loc) (ls : Array Slot), (isTy Nm (tS hv ed (tT o.2.1 o.1 ++ [47]) q)) → (FrZ Nm M) → Wd D B cy s H0 Nm H locs → lv_has ls 4 [(0, .ref (B + 146))] → W p l e R s m args below meth c H locs 0 0 Q (F0 m 132 ls [])) : ∀ (f : Nat) (sy : Nat) (Nm : Mem), (sy ≤ q) → (isTy Nm (tS hv ed (tT o.2.1 o.1 ++ [47]) sy)) → (FrZ Nm M) → (q ≤ sy + f) → ∀ (H : Heap) (locs : List Loc) (ls : Array Slot), Wd D B cy s H0 Nm H locs → lv_has ls 4 [(1, .int (zI (sy : Int))), (0, .ref (B + 146))] → W p l e R s m args below meth c H locs 0 0 Q (F0 m 70 ls []) := by
  have hx := F.1
  have hb := F.2.1
  have hW := hR.1
  have hwf := hR.wf
  have hKL := hwf.2.2.2.2
  have hn12 := hwf.1
  have hq12 := hwf.2.1
  have hhv := hwf.2.2.1
  have hed := hwf.2.2.2.1
  have hc := hR.2.2.2.2
  intro f
  induction f with
  | zero =>
    intro sy Nm i0 i1 i2 hf H locs ls w hl
    have hL9 := tS_len (hv := hv) (ed := ed) (b := (tT o.2.1 o.1 ++ [47])) sy
    have hL8 : (tT o.2.1 o.1 ++ [47]).length = o.1 + 1 := by rw [List.length_append, tT_len]; rfl
    refine lv_iload_n hx hb wdX12_writesWord_70 rfl (lv_at hl 0 rfl) ?_
    refine lv_aload_n hx hb wdX12_writesWord_71 rfl (lv_at hl 1 rfl) ?_
    refine f_12_2 F w (a := 146) rfl wtb_102 wdX12_writesWord_72 ?_
    refine lv_bipush (v := zI 25) hx hb wdX12_writesWord_75 (by decide) ?_
    refine g_iald F w (a := 148) rfl (j := 25) ⟨by decide, by decide⟩ (by omega) wdX12_writesWord_77 ?_
    refine r_val (v := (zI (q : Int))) ((hR.tz i2).1.2.1) ?_
    refine z_icmp_ge (tgt := 132) hx hb (by omega) (by omega) wdX12_writesWord_78 (by decide) (fun c1 => ?_) (fun c1 => False.elim (by omega))
    exact kk sy Nm _ _ ls (by have h9 := i1; rw [show sy = q by omega] at h9; exact h9) i2 w (lv_sub hl [1] rfl)
  | succ f ih =>
    intro sy Nm i0 i1 i2 hf H locs ls w hl
    have hL9 := tS_len (hv := hv) (ed := ed) (b := (tT o.2.1 o.1 ++ [47])) sy
    have hL8 : (tT o.2.1 o.1 ++ [47]).length = o.1 + 1 := by rw [List.length_append, tT_len]; rfl
    refine lv_iload_n hx hb wdX12_writesWord_70 rfl (lv_at hl 0 rfl) ?_
    refine lv_aload_n hx hb wdX12_writesWord_71 rfl (lv_at hl 1 rfl) ?_
    refine f_12_2 F w (a := 146) rfl wtb_102 wdX12_writesWord_72 ?_
    refine lv_bipush (v := zI 25) hx hb wdX12_writesWord_75 (by decide) ?_
    refine g_iald F w (a := 148) rfl (j := 25) ⟨by decide, by decide⟩ (by omega) wdX12_writesWord_77 ?_
    refine r_val (v := (zI (q : Int))) ((hR.tz i2).1.2.1) ?_
    refine z_icmp_ge (tgt := 132) hx hb (by omega) (by omega) wdX12_writesWord_78 (by decide) (fun c1 => ?_) (fun c1 => ?_)
    · exact kk sy Nm _ _ ls (by have h9 := i1; rw [show sy = q by omega] at h9; exact h9) i2 w (lv_sub hl [1] rfl)
    · refine lv_aload_n hx hb wdX12_writesWord_81 rfl (lv_at hl 1 rfl) ?_
      refine f_12_2 F w (a := 146) rfl wtb_102 wdX12_writesWord_82 ?_
      refine lv_bipush (v := zI 27) hx hb wdX12_writesWord_85 (by decide) ?_
      refine g_iald F w (a := 148) rfl (j := 27) ⟨by decide, by decide⟩ (by omega) wdX12_writesWord_87 ?_
      refine r_val (v := (zI (ed : Int))) ((hR.tz i2).1.2.2.2.1) ?_
      refine lv_iload_n hx hb wdX12_writesWord_88 rfl (lv_at hl 0 rfl) ?_
      refine k_Si F w (As := [.int (zI (ed : Int)), .int (zI (sy : Int))]) (rest := []) (s_X12_isIn (m9 := ed) (k := sy) (by omega) (by omega)) wgs_X12_51 whs_X12_isIn ⟨(by omega), (by omega)⟩ hl.1 rfl (Nat.le_of_ble_eq_true rfl) ⟨Nat.zero_le _, Nat.zero_le _⟩ wdX12_writesWord_89 (fun r Ma3 H locs hp w => ?_)
      rcases hp with ⟨⟨hb2, rfl⟩ | ⟨hb2, rfl⟩, hMe⟩
      · rw [hMe] at w
        refine z_if_eq (tgt := 101) hx hb (by omega) wdX12_writesWord_92 (by decide) (fun c4 => False.elim (by omega)) (fun c4 => ?_)
        refine lv_aload_n hx hb wdX12_writesWord_95 rfl (lv_at hl 1 rfl) ?_
        refine lv_bipush (v := zI 45) hx hb wdX12_writesWord_96 (by decide) ?_
        refine k_Vv F w (As := [.int (zI 45)]) (rest := []) (a := 146) (kd_lt (a := 146) (show kd 146 = (12, 0, 0) from rfl) (by decide)) (sh_12 rfl _ _) rfl (k_writes (tx := (tS hv ed (tT o.2.1 o.1 ++ [47]) sy)) i1 (by omega) (c9 := 45) (by omega)) wgv_X12_294 whv_X12_writes ⟨(by omega), (by omega)⟩ hl.1 rfl (Nat.le_of_ble_eq_true rfl) ⟨Nat.zero_le _, Nat.zero_le _⟩ wdX12_writesWord_98 (fun Ma6 H locs hp w => ?_)
        rcases hp with ⟨hTp5, hFp5⟩
        have hLp5 : ((tS hv ed (tT o.2.1 o.1 ++ [47]) sy) ++ [45]).length = ((tS hv ed (tT o.2.1 o.1 ++ [47]) sy)).length + 1 := len1
        have hGp5 : FrZ Ma6 M := FrZ.tr i2 hFp5
        refine lv_aload_n hx hb wdX12_writesWord_101 rfl (lv_at hl 1 rfl) ?_
        refine lv_aload_n hx hb wdX12_writesWord_102 rfl (lv_at hl 1 rfl) ?_
        refine f_12_2 F w (a := 146) rfl wtb_102 wdX12_writesWord_103 ?_
        refine lv_bipush (v := zI 26) hx hb wdX12_writesWord_106 (by decide) ?_
        refine g_iald F w (a := 148) rfl (j := 26) ⟨by decide, by decide⟩ (by omega) wdX12_writesWord_108 ?_
        refine r_val (v := (zI (hv : Int))) ((hR.tz hGp5).1.2.2.1) ?_
        refine lv_iload_n hx hb wdX12_writesWord_109 rfl (lv_at hl 0 rfl) ?_
        refine k_Si F w (As := [.int (zI (hv : Int)), .int (zI (sy : Int))]) (rest := [.ref (B + 146)]) (s_X12_isIn (m9 := hv) (k := sy) (by omega) (by omega)) wgs_X12_51 whs_X12_isIn ⟨(by omega), (by omega)⟩ hl.1 rfl (Nat.le_of_ble_eq_true rfl) ⟨Nat.zero_le _, Nat.zero_le _⟩ wdX12_writesWord_110 (fun r Ma8 H locs hp w => ?_)
        rcases hp with ⟨⟨hb7, rfl⟩ | ⟨hb7, rfl⟩, hMe⟩
        · rw [hMe] at w
          refine z_if_eq (tgt := 121) hx hb (by omega) wdX12_writesWord_113 (by decide) (fun c9 => False.elim (by omega)) (fun c9 => ?_)
          refine lv_bipush (v := zI 79) hx hb wdX12_writesWord_116 (by decide) ?_
          refine lv_goto (tgt := 123) hx hb wdX12_writesWord_118 (by decide) ?_
          refine k_Vv F w (As := [.int (zI 79)]) (rest := []) (a := 146) (kd_lt (a := 146) (show kd 146 = (12, 0, 0) from rfl) (by decide)) (sh_12 rfl _ _) rfl (k_writes (tx := ((tS hv ed (tT o.2.1 o.1 ++ [47]) sy) ++ [45])) hTp5 (by omega) (c9 := 79) (by omega)) wgv_X12_294 whv_X12_writes ⟨(by omega), (by omega)⟩ hl.1 rfl (Nat.le_of_ble_eq_true rfl) ⟨Nat.zero_le _, Nat.zero_le _⟩ wdX12_writesWord_123 (fun Ma11 H locs hp w => ?_)
          rcases hp with ⟨hTp10, hFp10⟩
          have hLp10 : (((tS hv ed (tT o.2.1 o.1 ++ [47]) sy) ++ [45]) ++ [79]).length = (((tS hv ed (tT o.2.1 o.1 ++ [47]) sy) ++ [45])).length + 1 := len1
          have hGp10 : FrZ Ma11 M := FrZ.tr hGp5 hFp10
          refine z_iinc (v := (((sy + 1) : Nat) : Int)) (lv' := [(1, .int (zI (((sy + 1) : Nat) : Int))), (0, .ref (B + 146))]) hx hb wdX12_writesWord_126 hl (k := 0) rfl (by omega) (by decide) rfl (fun ls hl => ?_)
          refine lv_goto (tgt := 70) hx hb wdX12_writesWord_129 (by decide) ?_
          exact ih (sy + 1) Ma11 (by omega) (by rw [tS_y hb2, if_pos hb7]; exact hTp10) hGp10 (by omega) _ _ ls w (lv_sub hl [0, 1] rfl)
        · rw [hMe] at w
          refine z_if_eq (tgt := 121) hx hb (by omega) wdX12_writesWord_113 (by decide) (fun c12 => ?_) (fun c12 => False.elim (by omega))
          refine lv_bipush (v := zI 111) hx hb wdX12_writesWord_121 (by decide) ?_
          refine k_Vv F w (As := [.int (zI 111)]) (rest := []) (a := 146) (kd_lt (a := 146) (show kd 146 = (12, 0, 0) from rfl) (by decide)) (sh_12 rfl _ _) rfl (k_writes (tx := ((tS hv ed (tT o.2.1 o.1 ++ [47]) sy) ++ [45])) hTp5 (by omega) (c9 := 111) (by omega)) wgv_X12_294 whv_X12_writes ⟨(by omega), (by omega)⟩ hl.1 rfl (Nat.le_of_ble_eq_true rfl) ⟨Nat.zero_le _, Nat.zero_le _⟩ wdX12_writesWord_123 (fun Ma14 H locs hp w => ?_)
          rcases hp with ⟨hTp13, hFp13⟩
          have hLp13 : (((tS hv ed (tT o.2.1 o.1 ++ [47]) sy) ++ [45]) ++ [111]).length = (((tS hv ed (tT o.2.1 o.1 ++ [47]) sy) ++ [45])).length + 1 := len1
          have hGp13 : FrZ Ma14 M := FrZ.tr hGp5 hFp13
          refine z_iinc (v := (((sy + 1) : Nat) : Int)) (lv' := [(1, .int (zI (((sy + 1) : Nat) : Int))), (0, .ref (B + 146))]) hx hb wdX12_writesWord_126 hl (k := 0) rfl (by omega) (by decide) rfl (fun ls hl => ?_)
          refine lv_goto (tgt := 70) hx hb wdX12_writesWord_129 (by decide) ?_
          exact ih (sy + 1) Ma14 (by omega) (by rw [tS_y hb2, if_neg hb7]; exact hTp13) hGp13 (by omega) _ _ ls w (lv_sub hl [0, 1] rfl)
      · rw [hMe] at w
        refine z_if_eq (tgt := 101) hx hb (by omega) wdX12_writesWord_92 (by decide) (fun c15 => ?_) (fun c15 => False.elim (by omega))
        refine lv_aload_n hx hb wdX12_writesWord_101 rfl (lv_at hl 1 rfl) ?_
        refine lv_aload_n hx hb wdX12_writesWord_102 rfl (lv_at hl 1 rfl) ?_
        refine f_12_2 F w (a := 146) rfl wtb_102 wdX12_writesWord_103 ?_
        refine lv_bipush (v := zI 26) hx hb wdX12_writesWord_106 (by decide) ?_
        refine g_iald F w (a := 148) rfl (j := 26) ⟨by decide, by decide⟩ (by omega) wdX12_writesWord_108 ?_
        refine r_val (v := (zI (hv : Int))) ((hR.tz i2).1.2.2.1) ?_
        refine lv_iload_n hx hb wdX12_writesWord_109 rfl (lv_at hl 0 rfl) ?_
        refine k_Si F w (As := [.int (zI (hv : Int)), .int (zI (sy : Int))]) (rest := [.ref (B + 146)]) (s_X12_isIn (m9 := hv) (k := sy) (by omega) (by omega)) wgs_X12_51 whs_X12_isIn ⟨(by omega), (by omega)⟩ hl.1 rfl (Nat.le_of_ble_eq_true rfl) ⟨Nat.zero_le _, Nat.zero_le _⟩ wdX12_writesWord_110 (fun r Ma17 H locs hp w => ?_)
        rcases hp with ⟨⟨hb16, rfl⟩ | ⟨hb16, rfl⟩, hMe⟩
        · rw [hMe] at w
          refine z_if_eq (tgt := 121) hx hb (by omega) wdX12_writesWord_113 (by decide) (fun c18 => False.elim (by omega)) (fun c18 => ?_)
          refine lv_bipush (v := zI 79) hx hb wdX12_writesWord_116 (by decide) ?_
          refine lv_goto (tgt := 123) hx hb wdX12_writesWord_118 (by decide) ?_
          refine k_Vv F w (As := [.int (zI 79)]) (rest := []) (a := 146) (kd_lt (a := 146) (show kd 146 = (12, 0, 0) from rfl) (by decide)) (sh_12 rfl _ _) rfl (k_writes (tx := (tS hv ed (tT o.2.1 o.1 ++ [47]) sy)) i1 (by omega) (c9 := 79) (by omega)) wgv_X12_294 whv_X12_writes ⟨(by omega), (by omega)⟩ hl.1 rfl (Nat.le_of_ble_eq_true rfl) ⟨Nat.zero_le _, Nat.zero_le _⟩ wdX12_writesWord_123 (fun Ma20 H locs hp w => ?_)
          rcases hp with ⟨hTp19, hFp19⟩
          have hLp19 : ((tS hv ed (tT o.2.1 o.1 ++ [47]) sy) ++ [79]).length = ((tS hv ed (tT o.2.1 o.1 ++ [47]) sy)).length + 1 := len1
          have hGp19 : FrZ Ma20 M := FrZ.tr i2 hFp19
          refine z_iinc (v := (((sy + 1) : Nat) : Int)) (lv' := [(1, .int (zI (((sy + 1) : Nat) : Int))), (0, .ref (B + 146))]) hx hb wdX12_writesWord_126 hl (k := 0) rfl (by omega) (by decide) rfl (fun ls hl => ?_)
          refine lv_goto (tgt := 70) hx hb wdX12_writesWord_129 (by decide) ?_
          exact ih (sy + 1) Ma20 (by omega) (by rw [tS_n hb2, if_pos hb16]; exact hTp19) hGp19 (by omega) _ _ ls w (lv_sub hl [0, 1] rfl)
        · rw [hMe] at w
          refine z_if_eq (tgt := 121) hx hb (by omega) wdX12_writesWord_113 (by decide) (fun c21 => ?_) (fun c21 => False.elim (by omega))
          refine lv_bipush (v := zI 111) hx hb wdX12_writesWord_121 (by decide) ?_
          refine k_Vv F w (As := [.int (zI 111)]) (rest := []) (a := 146) (kd_lt (a := 146) (show kd 146 = (12, 0, 0) from rfl) (by decide)) (sh_12 rfl _ _) rfl (k_writes (tx := (tS hv ed (tT o.2.1 o.1 ++ [47]) sy)) i1 (by omega) (c9 := 111) (by omega)) wgv_X12_294 whv_X12_writes ⟨(by omega), (by omega)⟩ hl.1 rfl (Nat.le_of_ble_eq_true rfl) ⟨Nat.zero_le _, Nat.zero_le _⟩ wdX12_writesWord_123 (fun Ma23 H locs hp w => ?_)
          rcases hp with ⟨hTp22, hFp22⟩
          have hLp22 : ((tS hv ed (tT o.2.1 o.1 ++ [47]) sy) ++ [111]).length = ((tS hv ed (tT o.2.1 o.1 ++ [47]) sy)).length + 1 := len1
          have hGp22 : FrZ Ma23 M := FrZ.tr i2 hFp22
          refine z_iinc (v := (((sy + 1) : Nat) : Int)) (lv' := [(1, .int (zI (((sy + 1) : Nat) : Int))), (0, .ref (B + 146))]) hx hb wdX12_writesWord_126 hl (k := 0) rfl (by omega) (by decide) rfl (fun ls hl => ?_)
          refine lv_goto (tgt := 70) hx hb wdX12_writesWord_129 (by decide) ?_
          exact ih (sy + 1) Ma23 (by omega) (by rw [tS_n hb2, if_neg hb16]; exact hTp22) hGp22 (by omega) _ _ ls w (lv_sub hl [0, 1] rfl)
theorem wdX12_writesWord_154 : decode cX12_writesWord 154 = .ok (.iload_n 3, 1) := dX12_writesWord_154
theorem wdX12_writesWord_155 : decode cX12_writesWord 155 = .ok (.aload_n 0, 1) := dX12_writesWord_155
theorem wdX12_writesWord_156 : decode cX12_writesWord 156 = .ok (.getfield 17, 3) := dX12_writesWord_156
theorem wdX12_writesWord_159 : decode cX12_writesWord 159 = .ok (.bipush 25, 2) := dX12_writesWord_159
theorem wdX12_writesWord_161 : decode cX12_writesWord 161 = .ok (.iaload, 1) := dX12_writesWord_161
theorem wdX12_writesWord_162 : decode cX12_writesWord 162 = .ok (.if_icmp .ge 56, 3) := dX12_writesWord_162
theorem wdX12_writesWord_165 : decode cX12_writesWord 165 = .ok (.aload_n 0, 1) := dX12_writesWord_165
theorem wdX12_writesWord_166 : decode cX12_writesWord 166 = .ok (.getfield 17, 3) := dX12_writesWord_166
theorem wdX12_writesWord_169 : decode cX12_writesWord 169 = .ok (.bipush 13, 2) := dX12_writesWord_169
theorem wdX12_writesWord_171 : decode cX12_writesWord 171 = .ok (.iload_n 2, 1) := dX12_writesWord_171
theorem wdX12_writesWord_172 : decode cX12_writesWord 172 = .ok (.iadd, 1) := dX12_writesWord_172
theorem wdX12_writesWord_173 : decode cX12_writesWord 173 = .ok (.iaload, 1) := dX12_writesWord_173
theorem wdX12_writesWord_174 : decode cX12_writesWord 174 = .ok (.iload_n 3, 1) := dX12_writesWord_174
theorem wdX12_writesWord_175 : decode cX12_writesWord 175 = .ok (.invokestatic 51, 3) := dX12_writesWord_175
theorem wdX12_writesWord_178 : decode cX12_writesWord 178 = .ok (.ifCond .ne 6, 3) := dX12_writesWord_178
theorem wdX12_writesWord_184 : decode cX12_writesWord 184 = .ok (.iload_n 1, 1) := dX12_writesWord_184
theorem wdX12_writesWord_185 : decode cX12_writesWord 185 = .ok (.ifCond .ne 9, 3) := dX12_writesWord_185
theorem wdX12_writesWord_194 : decode cX12_writesWord 194 = .ok (.aload_n 0, 1) := dX12_writesWord_194
theorem wdX12_writesWord_195 : decode cX12_writesWord 195 = .ok (.iload_n 2, 1) := dX12_writesWord_195
theorem wdX12_writesWord_196 : decode cX12_writesWord 196 = .ok (.invokevirtual 297, 3) := dX12_writesWord_196
theorem wtk_X12_writesNumber : Cond.code yX12_writesNumber cX12_writesNumber 2 none ∈ TB := tk_X12_writesNumber
theorem wgc_X12_writesNumber : GoodIn TB (cw yX12_writesNumber cX12_writesNumber 2 none) := goodIn_c2 wtk_X12_writesNumber
theorem wtb_415 : Cond.methodLink "ToneLinesModel" 297 yX12_writesNumber ∈ TB := tb_702
theorem wtb_416 : Cond.instanceMethod yX12_writesNumber ∈ TB := tb_703
theorem wtb_417 : Cond.selects "ToneLinesModel" yX12_writesNumber yX12_writesNumber ∈ TB := tb_704
theorem wgv_X12_297 : GoodIn TB (wsV RX12 297 RX12 yX12_writesNumber (cw yX12_writesNumber cX12_writesNumber 2 none)) := goodIn_4 wtb_415 wtb_416 wtb_417 wtb_105 wgc_X12_writesNumber
theorem whv_X12_writesNumber : yX12_writesNumber.cls = RX12 ∧ yX12_writesNumber.cls ≠ "java/lang/invoke/MethodHandle" ∧ yX12_writesNumber.cls ≠ "java/lang/invoke/VarHandle" ∧ (parseMethodDescriptor yX12_writesNumber.desc).map (fun d => d.parameters.length) = some 1 := hv_X12_writesNumber
theorem wdX12_writesWord_199 : decode cX12_writesWord 199 = .ok (.aload_n 0, 1) := dX12_writesWord_199
theorem wdX12_writesWord_200 : decode cX12_writesWord 200 = .ok (.bipush 58, 2) := dX12_writesWord_200
theorem wdX12_writesWord_202 : decode cX12_writesWord 202 = .ok (.invokevirtual 294, 3) := dX12_writesWord_202
theorem wdX12_writesWord_205 : decode cX12_writesWord 205 = .ok (.aload_n 0, 1) := dX12_writesWord_205
theorem wdX12_writesWord_206 : decode cX12_writesWord 206 = .ok (.iload_n 3, 1) := dX12_writesWord_206
theorem wdX12_writesWord_207 : decode cX12_writesWord 207 = .ok (.invokevirtual 297, 3) := dX12_writesWord_207
theorem wdX12_writesWord_210 : decode cX12_writesWord 210 = .ok (.iconst 0, 1) := dX12_writesWord_210
theorem wdX12_writesWord_211 : decode cX12_writesWord 211 = .ok (.istore_n 1, 1) := dX12_writesWord_211
theorem wdX12_writesWord_212 : decode cX12_writesWord 212 = .ok (.iinc 3 1, 3) := dX12_writesWord_212
theorem wdX12_writesWord_215 : decode cX12_writesWord 215 = .ok (.goto (-61), 3) := dX12_writesWord_215
theorem wdX12_writesWord_188 : decode cX12_writesWord 188 = .ok (.aload_n 0, 1) := dX12_writesWord_188
theorem wdX12_writesWord_189 : decode cX12_writesWord 189 = .ok (.bipush 32, 2) := dX12_writesWord_189
theorem wdX12_writesWord_191 : decode cX12_writesWord 191 = .ok (.invokevirtual 294, 3) := dX12_writesWord_191
theorem wdX12_writesWord_181 : decode cX12_writesWord 181 = .ok (.goto 31, 3) := dX12_writesWord_181
set_option maxRecDepth 4000 in
theorem lp_X12_ww4 {p : Program} {l : Launch} {e : Env} {s : State} {m : MethodId} {args : Array Value} {below : List Frame} {meth : Method} {c : Code} {D : va_G} {B : Nat} {cy : Nat → ClassId} {H0 : Heap} {Q : State → Prop} {M : Mem} {R : Room} {q hv ed : Nat} {o : Wo} {z9 : Int} {t : Nat} (F : CallFix p m c cX12_writesWord 4 s args TB RX12) (hR1 : 2 ≤ R.frames) (hR2 : 42 ≤ R.locals) (hR : RW M q hv ed o z9) (hn9 : ncW o) (ht : t < o.1) (kk : ∀ (sy : Nat) (Nm : Mem) (H : Heap) (locs : List Loc) (ls : Array Slot), (isTy Nm (lnA o.2.2 (t + 1) (1, txB q hv ed o)).2) → (FrZ Nm M) → Wd D B cy s H0 Nm H locs → lv_has ls 4 [(2, .int (zI (t : Int))), (1, .int (zI (((lnA o.2.2 (t + 1) (1, txB q hv ed o)).1 : Nat) : Int))), (0, .ref (B + 146))] → W p l e R s m args below meth c H locs 0 0 Q (F0 m 218 ls [])) : ∀ (f : Nat) (sy : Nat) (Nm : Mem), (sy ≤ q) → (isTy Nm (lnR t (o.2.2 t) sy (lnA o.2.2 t (1, txB q hv ed o))).2) → (FrZ Nm M) → (q ≤ sy + f) → ∀ (H : Heap) (locs : List Loc) (ls : Array Slot), Wd D B cy s H0 Nm H locs → lv_has ls 4 [(3, .int (zI (sy : Int))), (2, .int (zI (t : Int))), (1, .int (zI (((lnR t (o.2.2 t) sy (lnA o.2.2 t (1, txB q hv ed o))).1 : Nat) : Int))), (0, .ref (B + 146))] → W p l e R s m args below meth c H locs 0 0 Q (F0 m 154 ls []) := by
  have hx := F.1
  have hb := F.2.1
  have hW := hR.1
  have hwf := hR.wf
  have hKL := hwf.2.2.2.2
  have hn12 := hwf.1
  have hq12 := hwf.2.1
  have hhv := hwf.2.2.1
  have hed := hwf.2.2.2.1
  have hc := hR.2.2.2.2
  have htc := tx_b (q := q) (hv := hv) (ed := ed) (t := t) hR.2.1 hn9 (by omega)
  have htd := tx_b (q := q) (hv := hv) (ed := ed) (t := t + 1) hR.2.1 hn9 (by omega)
  have elc : lcF o.2.2 (t + 1) = lcF o.2.2 t + pop (o.2.2 t) := rfl
  intro f
  induction f with
  | zero =>
    intro sy Nm i0 i1 i2 hf H locs ls w hl
    have hlr := lnR_len (t := t) (m := o.2.2 t) (x := (lnA o.2.2 t (1, txB q hv ed o))) sy
    have hf1 := lnR_1 (t := t) (m := o.2.2 t) (x := (lnA o.2.2 t (1, txB q hv ed o))) (lnA_1 t) sy
    refine lv_iload_n hx hb wdX12_writesWord_154 rfl (lv_at hl 0 rfl) ?_
    refine lv_aload_n hx hb wdX12_writesWord_155 rfl (lv_at hl 3 rfl) ?_
    refine f_12_2 F w (a := 146) rfl wtb_102 wdX12_writesWord_156 ?_
    refine lv_bipush (v := zI 25) hx hb wdX12_writesWord_159 (by decide) ?_
    refine g_iald F w (a := 148) rfl (j := 25) ⟨by decide, by decide⟩ (by omega) wdX12_writesWord_161 ?_
    refine r_val (v := (zI (q : Int))) ((hR.tz i2).1.2.1) ?_
    refine z_icmp_ge (tgt := 218) hx hb (by omega) (by omega) wdX12_writesWord_162 (by decide) (fun c1 => ?_) (fun c1 => False.elim (by omega))
    have eX : (lnR t (o.2.2 t) sy (lnA o.2.2 t (1, txB q hv ed o))) = (lnA o.2.2 (t + 1) (1, txB q hv ed o)) := by rw [show sy = q by omega, lnA]; exact lnR_12 (hR.2.1.2.2 t (by omega)).2 hq12
    replace hl : lv_has ls 4 [(3, .int (zI (sy : Int))), (2, .int (zI (t : Int))), (1, .int (zI (((lnA o.2.2 (t + 1) (1, txB q hv ed o)).1 : Nat) : Int))), (0, .ref (B + 146))] := by rw [← eX]; exact hl
    exact kk sy Nm _ _ ls (by rw [← eX]; exact i1) i2 w (lv_sub hl [1, 2, 3] rfl)
  | succ f ih =>
    intro sy Nm i0 i1 i2 hf H locs ls w hl
    have hlr := lnR_len (t := t) (m := o.2.2 t) (x := (lnA o.2.2 t (1, txB q hv ed o))) sy
    have hf1 := lnR_1 (t := t) (m := o.2.2 t) (x := (lnA o.2.2 t (1, txB q hv ed o))) (lnA_1 t) sy
    refine lv_iload_n hx hb wdX12_writesWord_154 rfl (lv_at hl 0 rfl) ?_
    refine lv_aload_n hx hb wdX12_writesWord_155 rfl (lv_at hl 3 rfl) ?_
    refine f_12_2 F w (a := 146) rfl wtb_102 wdX12_writesWord_156 ?_
    refine lv_bipush (v := zI 25) hx hb wdX12_writesWord_159 (by decide) ?_
    refine g_iald F w (a := 148) rfl (j := 25) ⟨by decide, by decide⟩ (by omega) wdX12_writesWord_161 ?_
    refine r_val (v := (zI (q : Int))) ((hR.tz i2).1.2.1) ?_
    refine z_icmp_ge (tgt := 218) hx hb (by omega) (by omega) wdX12_writesWord_162 (by decide) (fun c1 => ?_) (fun c1 => ?_)
    · have eX : (lnR t (o.2.2 t) sy (lnA o.2.2 t (1, txB q hv ed o))) = (lnA o.2.2 (t + 1) (1, txB q hv ed o)) := by rw [show sy = q by omega, lnA]; exact lnR_12 (hR.2.1.2.2 t (by omega)).2 hq12
      replace hl : lv_has ls 4 [(3, .int (zI (sy : Int))), (2, .int (zI (t : Int))), (1, .int (zI (((lnA o.2.2 (t + 1) (1, txB q hv ed o)).1 : Nat) : Int))), (0, .ref (B + 146))] := by rw [← eX]; exact hl
      exact kk sy Nm _ _ ls (by rw [← eX]; exact i1) i2 w (lv_sub hl [1, 2, 3] rfl)
    · refine lv_aload_n hx hb wdX12_writesWord_165 rfl (lv_at hl 3 rfl) ?_
      refine f_12_2 F w (a := 146) rfl wtb_102 wdX12_writesWord_166 ?_
      refine lv_bipush (v := zI 13) hx hb wdX12_writesWord_169 (by decide) ?_
      refine lv_iload_n hx hb wdX12_writesWord_171 rfl (lv_at hl 1 rfl) ?_
      refine z_iadd (z := (((13 + t) : Nat) : Int)) hx hb wdX12_writesWord_172 (by omega) ?_
      refine g_iald F w (a := 148) rfl (j := (13 + t)) (ix_n (by omega)) (by omega) wdX12_writesWord_173 ?_
      have hL1 := (hKL t (by omega)).2
      refine r_val (v := (zI (((o.2.2 t) : Nat) : Int))) ((hR.tz i2).1.2.2.2.2.2 t (by omega)) ?_
      refine lv_iload_n hx hb wdX12_writesWord_174 rfl (lv_at hl 0 rfl) ?_
      refine k_Si F w (As := [.int (zI (((o.2.2 t) : Nat) : Int)), .int (zI (sy : Int))]) (rest := []) (s_X12_isIn (m9 := (o.2.2 t)) (k := sy) (by omega) (by omega)) wgs_X12_51 whs_X12_isIn ⟨(by omega), (by omega)⟩ hl.1 rfl (Nat.le_of_ble_eq_true rfl) ⟨Nat.zero_le _, Nat.zero_le _⟩ wdX12_writesWord_175 (fun r Ma3 H locs hp w => ?_)
      rcases hp with ⟨⟨hb2, rfl⟩ | ⟨hb2, rfl⟩, hMe⟩
      · rw [hMe] at w
        refine z_if_ne (tgt := 184) hx hb (by omega) wdX12_writesWord_178 (by decide) (fun c4 => ?_) (fun c4 => False.elim (by omega))
        have hcb := cb_p (m := o.2.2 t) (s := sy + 1) (by omega)
        rw [cb_y hb2] at hcb
        refine lv_iload_n hx hb wdX12_writesWord_184 rfl (lv_at hl 2 rfl) ?_
        refine z_if_ne (tgt := 194) hx hb (by omega) wdX12_writesWord_185 (by decide) (fun c5 => ?_) (fun c5 => ?_)
        · refine lv_aload_n hx hb wdX12_writesWord_194 rfl (lv_at hl 3 rfl) ?_
          refine lv_iload_n hx hb wdX12_writesWord_195 rfl (lv_at hl 1 rfl) ?_
          refine k_Vv F w (As := [.int (zI (t : Int))]) (rest := []) (a := 146) (kd_lt (a := 146) (show kd 146 = (12, 0, 0) from rfl) (by decide)) (sh_12 rfl _ _) rfl (k_writesNumber (tx := (lnR t (o.2.2 t) sy (lnA o.2.2 t (1, txB q hv ed o))).2) i1 (by omega) (v9 := t) (by omega)) wgv_X12_297 whv_X12_writesNumber ⟨(by omega), (by omega)⟩ hl.1 rfl (Nat.le_of_ble_eq_true rfl) ⟨Nat.zero_le _, Nat.zero_le _⟩ wdX12_writesWord_196 (fun Ma7 H locs hp w => ?_)
          rcases hp with ⟨hTp6, hFp6⟩
          have hLp6 : ((lnR t (o.2.2 t) sy (lnA o.2.2 t (1, txB q hv ed o))).2 ++ nmT t).length ≤ ((lnR t (o.2.2 t) sy (lnA o.2.2 t (1, txB q hv ed o))).2).length + 2 := by rw [List.length_append]; have := (nm_len (v := t)).1; omega
          have hGp6 : FrZ Ma7 M := FrZ.tr i2 hFp6
          refine lv_aload_n hx hb wdX12_writesWord_199 rfl (lv_at hl 3 rfl) ?_
          refine lv_bipush (v := zI 58) hx hb wdX12_writesWord_200 (by decide) ?_
          refine k_Vv F w (As := [.int (zI 58)]) (rest := []) (a := 146) (kd_lt (a := 146) (show kd 146 = (12, 0, 0) from rfl) (by decide)) (sh_12 rfl _ _) rfl (k_writes (tx := ((lnR t (o.2.2 t) sy (lnA o.2.2 t (1, txB q hv ed o))).2 ++ nmT t)) hTp6 (by omega) (c9 := 58) (by omega)) wgv_X12_294 whv_X12_writes ⟨(by omega), (by omega)⟩ hl.1 rfl (Nat.le_of_ble_eq_true rfl) ⟨Nat.zero_le _, Nat.zero_le _⟩ wdX12_writesWord_202 (fun Ma9 H locs hp w => ?_)
          rcases hp with ⟨hTp8, hFp8⟩
          have hLp8 : (((lnR t (o.2.2 t) sy (lnA o.2.2 t (1, txB q hv ed o))).2 ++ nmT t) ++ [58]).length = (((lnR t (o.2.2 t) sy (lnA o.2.2 t (1, txB q hv ed o))).2 ++ nmT t)).length + 1 := len1
          have hGp8 : FrZ Ma9 M := FrZ.tr hGp6 hFp8
          refine lv_aload_n hx hb wdX12_writesWord_205 rfl (lv_at hl 3 rfl) ?_
          refine lv_iload_n hx hb wdX12_writesWord_206 rfl (lv_at hl 0 rfl) ?_
          refine k_Vv F w (As := [.int (zI (sy : Int))]) (rest := []) (a := 146) (kd_lt (a := 146) (show kd 146 = (12, 0, 0) from rfl) (by decide)) (sh_12 rfl _ _) rfl (k_writesNumber (tx := (((lnR t (o.2.2 t) sy (lnA o.2.2 t (1, txB q hv ed o))).2 ++ nmT t) ++ [58])) hTp8 (by omega) (v9 := sy) (by omega)) wgv_X12_297 whv_X12_writesNumber ⟨(by omega), (by omega)⟩ hl.1 rfl (Nat.le_of_ble_eq_true rfl) ⟨Nat.zero_le _, Nat.zero_le _⟩ wdX12_writesWord_207 (fun Ma11 H locs hp w => ?_)
          rcases hp with ⟨hTp10, hFp10⟩
          have hLp10 : ((((lnR t (o.2.2 t) sy (lnA o.2.2 t (1, txB q hv ed o))).2 ++ nmT t) ++ [58]) ++ nmT sy).length ≤ ((((lnR t (o.2.2 t) sy (lnA o.2.2 t (1, txB q hv ed o))).2 ++ nmT t) ++ [58])).length + 2 := by rw [List.length_append]; have := (nm_len (v := sy)).1; omega
          have hGp10 : FrZ Ma11 M := FrZ.tr hGp8 hFp10
          refine lv_iconst (v := zI 0) hx hb wdX12_writesWord_210 rfl ?_
          refine lv_istore_n (lv' := [(1, .int (zI 0)), (3, .int (zI (sy : Int))), (2, .int (zI (t : Int))), (0, .ref (B + 146))]) hx hb wdX12_writesWord_211 rfl hl (by decide) rfl (fun ls hl => ?_)
          refine z_iinc (v := (((sy + 1) : Nat) : Int)) (lv' := [(3, .int (zI (((sy + 1) : Nat) : Int))), (1, .int (zI 0)), (2, .int (zI (t : Int))), (0, .ref (B + 146))]) hx hb wdX12_writesWord_212 hl (k := 1) rfl (by omega) (by decide) rfl (fun ls hl => ?_)
          refine lv_goto (tgt := 154) hx hb wdX12_writesWord_215 (by decide) ?_
          have e9 : lnP t sy (lnR t (o.2.2 t) sy (lnA o.2.2 t (1, txB q hv ed o))) = (0, ((((lnR t (o.2.2 t) sy (lnA o.2.2 t (1, txB q hv ed o))).2 ++ nmT t) ++ [58]) ++ nmT sy)) := by unfold lnP; rw [if_pos (by omega), List.append_nil]
          replace hl : lv_has ls 4 [(3, .int (zI (((sy + 1) : Nat) : Int))), (1, .int (zI (((lnR t (o.2.2 t) (sy + 1) (lnA o.2.2 t (1, txB q hv ed o))).1 : Nat) : Int))), (2, .int (zI (t : Int))), (0, .ref (B + 146))] := by rw [lnR, if_pos hb2, e9]; exact hl
          exact ih (sy + 1) Ma11 (by omega) (by rw [lnR, if_pos hb2, e9]; exact hTp10) hGp10 (by omega) _ _ ls w (lv_sub hl [0, 2, 1, 3] rfl)
        · refine lv_aload_n hx hb wdX12_writesWord_188 rfl (lv_at hl 3 rfl) ?_
          refine lv_bipush (v := zI 32) hx hb wdX12_writesWord_189 (by decide) ?_
          refine k_Vv F w (As := [.int (zI 32)]) (rest := []) (a := 146) (kd_lt (a := 146) (show kd 146 = (12, 0, 0) from rfl) (by decide)) (sh_12 rfl _ _) rfl (k_writes (tx := (lnR t (o.2.2 t) sy (lnA o.2.2 t (1, txB q hv ed o))).2) i1 (by omega) (c9 := 32) (by omega)) wgv_X12_294 whv_X12_writes ⟨(by omega), (by omega)⟩ hl.1 rfl (Nat.le_of_ble_eq_true rfl) ⟨Nat.zero_le _, Nat.zero_le _⟩ wdX12_writesWord_191 (fun Ma13 H locs hp w => ?_)
          rcases hp with ⟨hTp12, hFp12⟩
          have hLp12 : ((lnR t (o.2.2 t) sy (lnA o.2.2 t (1, txB q hv ed o))).2 ++ [32]).length = ((lnR t (o.2.2 t) sy (lnA o.2.2 t (1, txB q hv ed o))).2).length + 1 := len1
          have hGp12 : FrZ Ma13 M := FrZ.tr i2 hFp12
          refine lv_aload_n hx hb wdX12_writesWord_194 rfl (lv_at hl 3 rfl) ?_
          refine lv_iload_n hx hb wdX12_writesWord_195 rfl (lv_at hl 1 rfl) ?_
          refine k_Vv F w (As := [.int (zI (t : Int))]) (rest := []) (a := 146) (kd_lt (a := 146) (show kd 146 = (12, 0, 0) from rfl) (by decide)) (sh_12 rfl _ _) rfl (k_writesNumber (tx := ((lnR t (o.2.2 t) sy (lnA o.2.2 t (1, txB q hv ed o))).2 ++ [32])) hTp12 (by omega) (v9 := t) (by omega)) wgv_X12_297 whv_X12_writesNumber ⟨(by omega), (by omega)⟩ hl.1 rfl (Nat.le_of_ble_eq_true rfl) ⟨Nat.zero_le _, Nat.zero_le _⟩ wdX12_writesWord_196 (fun Ma15 H locs hp w => ?_)
          rcases hp with ⟨hTp14, hFp14⟩
          have hLp14 : (((lnR t (o.2.2 t) sy (lnA o.2.2 t (1, txB q hv ed o))).2 ++ [32]) ++ nmT t).length ≤ (((lnR t (o.2.2 t) sy (lnA o.2.2 t (1, txB q hv ed o))).2 ++ [32])).length + 2 := by rw [List.length_append]; have := (nm_len (v := t)).1; omega
          have hGp14 : FrZ Ma15 M := FrZ.tr hGp12 hFp14
          refine lv_aload_n hx hb wdX12_writesWord_199 rfl (lv_at hl 3 rfl) ?_
          refine lv_bipush (v := zI 58) hx hb wdX12_writesWord_200 (by decide) ?_
          refine k_Vv F w (As := [.int (zI 58)]) (rest := []) (a := 146) (kd_lt (a := 146) (show kd 146 = (12, 0, 0) from rfl) (by decide)) (sh_12 rfl _ _) rfl (k_writes (tx := (((lnR t (o.2.2 t) sy (lnA o.2.2 t (1, txB q hv ed o))).2 ++ [32]) ++ nmT t)) hTp14 (by omega) (c9 := 58) (by omega)) wgv_X12_294 whv_X12_writes ⟨(by omega), (by omega)⟩ hl.1 rfl (Nat.le_of_ble_eq_true rfl) ⟨Nat.zero_le _, Nat.zero_le _⟩ wdX12_writesWord_202 (fun Ma17 H locs hp w => ?_)
          rcases hp with ⟨hTp16, hFp16⟩
          have hLp16 : ((((lnR t (o.2.2 t) sy (lnA o.2.2 t (1, txB q hv ed o))).2 ++ [32]) ++ nmT t) ++ [58]).length = ((((lnR t (o.2.2 t) sy (lnA o.2.2 t (1, txB q hv ed o))).2 ++ [32]) ++ nmT t)).length + 1 := len1
          have hGp16 : FrZ Ma17 M := FrZ.tr hGp14 hFp16
          refine lv_aload_n hx hb wdX12_writesWord_205 rfl (lv_at hl 3 rfl) ?_
          refine lv_iload_n hx hb wdX12_writesWord_206 rfl (lv_at hl 0 rfl) ?_
          refine k_Vv F w (As := [.int (zI (sy : Int))]) (rest := []) (a := 146) (kd_lt (a := 146) (show kd 146 = (12, 0, 0) from rfl) (by decide)) (sh_12 rfl _ _) rfl (k_writesNumber (tx := ((((lnR t (o.2.2 t) sy (lnA o.2.2 t (1, txB q hv ed o))).2 ++ [32]) ++ nmT t) ++ [58])) hTp16 (by omega) (v9 := sy) (by omega)) wgv_X12_297 whv_X12_writesNumber ⟨(by omega), (by omega)⟩ hl.1 rfl (Nat.le_of_ble_eq_true rfl) ⟨Nat.zero_le _, Nat.zero_le _⟩ wdX12_writesWord_207 (fun Ma19 H locs hp w => ?_)
          rcases hp with ⟨hTp18, hFp18⟩
          have hLp18 : (((((lnR t (o.2.2 t) sy (lnA o.2.2 t (1, txB q hv ed o))).2 ++ [32]) ++ nmT t) ++ [58]) ++ nmT sy).length ≤ (((((lnR t (o.2.2 t) sy (lnA o.2.2 t (1, txB q hv ed o))).2 ++ [32]) ++ nmT t) ++ [58])).length + 2 := by rw [List.length_append]; have := (nm_len (v := sy)).1; omega
          have hGp18 : FrZ Ma19 M := FrZ.tr hGp16 hFp18
          refine lv_iconst (v := zI 0) hx hb wdX12_writesWord_210 rfl ?_
          refine lv_istore_n (lv' := [(1, .int (zI 0)), (3, .int (zI (sy : Int))), (2, .int (zI (t : Int))), (0, .ref (B + 146))]) hx hb wdX12_writesWord_211 rfl hl (by decide) rfl (fun ls hl => ?_)
          refine z_iinc (v := (((sy + 1) : Nat) : Int)) (lv' := [(3, .int (zI (((sy + 1) : Nat) : Int))), (1, .int (zI 0)), (2, .int (zI (t : Int))), (0, .ref (B + 146))]) hx hb wdX12_writesWord_212 hl (k := 1) rfl (by omega) (by decide) rfl (fun ls hl => ?_)
          refine lv_goto (tgt := 154) hx hb wdX12_writesWord_215 (by decide) ?_
          have e9 : lnP t sy (lnR t (o.2.2 t) sy (lnA o.2.2 t (1, txB q hv ed o))) = (0, (((((lnR t (o.2.2 t) sy (lnA o.2.2 t (1, txB q hv ed o))).2 ++ [32]) ++ nmT t) ++ [58]) ++ nmT sy)) := by unfold lnP; rw [if_neg (by omega)]
          replace hl : lv_has ls 4 [(3, .int (zI (((sy + 1) : Nat) : Int))), (1, .int (zI (((lnR t (o.2.2 t) (sy + 1) (lnA o.2.2 t (1, txB q hv ed o))).1 : Nat) : Int))), (2, .int (zI (t : Int))), (0, .ref (B + 146))] := by rw [lnR, if_pos hb2, e9]; exact hl
          exact ih (sy + 1) Ma19 (by omega) (by rw [lnR, if_pos hb2, e9]; exact hTp18) hGp18 (by omega) _ _ ls w (lv_sub hl [0, 2, 1, 3] rfl)
      · rw [hMe] at w
        refine z_if_ne (tgt := 184) hx hb (by omega) wdX12_writesWord_178 (by decide) (fun c20 => False.elim (by omega)) (fun c20 => ?_)
        refine lv_goto (tgt := 212) hx hb wdX12_writesWord_181 (by decide) ?_
        refine z_iinc (v := (((sy + 1) : Nat) : Int)) (lv' := [(3, .int (zI (((sy + 1) : Nat) : Int))), (2, .int (zI (t : Int))), (1, .int (zI (((lnR t (o.2.2 t) sy (lnA o.2.2 t (1, txB q hv ed o))).1 : Nat) : Int))), (0, .ref (B + 146))]) hx hb wdX12_writesWord_212 hl (k := 0) rfl (by omega) (by decide) rfl (fun ls hl => ?_)
        refine lv_goto (tgt := 154) hx hb wdX12_writesWord_215 (by decide) ?_
        replace hl : lv_has ls 4 [(3, .int (zI (((sy + 1) : Nat) : Int))), (2, .int (zI (t : Int))), (1, .int (zI (((lnR t (o.2.2 t) (sy + 1) (lnA o.2.2 t (1, txB q hv ed o))).1 : Nat) : Int))), (0, .ref (B + 146))] := by rw [lnR, if_neg hb2]; exact hl
        exact ih (sy + 1) Nm (by omega) (by rw [lnR, if_neg hb2]; exact i1) i2 (by omega) _ _ ls w (lv_sub hl [0, 1, 2, 3] rfl)
theorem wdX12_writesWord_142 : decode cX12_writesWord 142 = .ok (.iload_n 2, 1) := dX12_writesWord_142
theorem wdX12_writesWord_143 : decode cX12_writesWord 143 = .ok (.aload_n 0, 1) := dX12_writesWord_143
theorem wdX12_writesWord_144 : decode cX12_writesWord 144 = .ok (.getfield 17, 3) := dX12_writesWord_144
theorem wdX12_writesWord_147 : decode cX12_writesWord 147 = .ok (.iconst 0, 1) := dX12_writesWord_147
theorem wdX12_writesWord_148 : decode cX12_writesWord 148 = .ok (.iaload, 1) := dX12_writesWord_148
theorem wdX12_writesWord_149 : decode cX12_writesWord 149 = .ok (.if_icmp .ge 75, 3) := dX12_writesWord_149
theorem wdX12_writesWord_152 : decode cX12_writesWord 152 = .ok (.iconst 0, 1) := dX12_writesWord_152
theorem wdX12_writesWord_153 : decode cX12_writesWord 153 = .ok (.istore_n 3, 1) := dX12_writesWord_153
theorem wdX12_writesWord_218 : decode cX12_writesWord 218 = .ok (.iinc 2 1, 3) := dX12_writesWord_218
theorem wdX12_writesWord_221 : decode cX12_writesWord 221 = .ok (.goto (-79), 3) := dX12_writesWord_221
set_option maxRecDepth 4000 in
theorem lp_X12_ww3 {p : Program} {l : Launch} {e : Env} {s : State} {m : MethodId} {args : Array Value} {below : List Frame} {meth : Method} {c : Code} {D : va_G} {B : Nat} {cy : Nat → ClassId} {H0 : Heap} {Q : State → Prop} {M : Mem} {R : Room} {q hv ed : Nat} {o : Wo} {z9 : Int} (F : CallFix p m c cX12_writesWord 4 s args TB RX12) (hR1 : 2 ≤ R.frames) (hR2 : 42 ≤ R.locals) (hR : RW M q hv ed o z9) (hn9 : ncW o) (kk : ∀ (t : Nat) (Nm : Mem) (H : Heap) (locs : List Loc) (ls : Array Slot), (isTy Nm (txF q hv ed o)) → (FrZ Nm M) → Wd D B cy s H0 Nm H locs → lv_has ls 4 [] → W p l e R s m args below meth c H locs 0 0 Q (F0 m 224 ls [])) : ∀ (f : Nat) (t : Nat) (Nm : Mem), (t ≤ o.1) → (isTy Nm (lnA o.2.2 t (1, txB q hv ed o)).2) → (FrZ Nm M) → (o.1 ≤ t + f) → ∀ (H : Heap) (locs : List Loc) (ls : Array Slot), Wd D B cy s H0 Nm H locs → lv_has ls 4 [(2, .int (zI (t : Int))), (1, .int (zI (((lnA o.2.2 t (1, txB q hv ed o)).1 : Nat) : Int))), (0, .ref (B + 146))] → W p l e R s m args below meth c H locs 0 0 Q (F0 m 142 ls []) := by
  have hx := F.1
  have hb := F.2.1
  have hW := hR.1
  have hwf := hR.wf
  have hKL := hwf.2.2.2.2
  have hn12 := hwf.1
  have hq12 := hwf.2.1
  have hhv := hwf.2.2.1
  have hed := hwf.2.2.2.1
  have hc := hR.2.2.2.2
  intro f
  induction f with
  | zero =>
    intro t Nm i0 i1 i2 hf H locs ls w hl
    refine lv_iload_n hx hb wdX12_writesWord_142 rfl (lv_at hl 0 rfl) ?_
    refine lv_aload_n hx hb wdX12_writesWord_143 rfl (lv_at hl 2 rfl) ?_
    refine f_12_2 F w (a := 146) rfl wtb_102 wdX12_writesWord_144 ?_
    refine lv_iconst (v := zI 0) hx hb wdX12_writesWord_147 rfl ?_
    refine g_iald F w (a := 148) rfl (j := 0) ⟨by decide, by decide⟩ (by omega) wdX12_writesWord_148 ?_
    refine r_val (v := (zI ((o.1 : Nat) : Int))) ((hR.tz i2).1.1) ?_
    refine z_icmp_ge (tgt := 224) hx hb (by omega) (by omega) wdX12_writesWord_149 (by decide) (fun c1 => ?_) (fun c1 => False.elim (by omega))
    exact kk t Nm _ _ ls (by have h9 := i1; rw [show t = o.1 by omega] at h9; exact h9) i2 w (lv_sub hl [] rfl)
  | succ f ih =>
    intro t Nm i0 i1 i2 hf H locs ls w hl
    refine lv_iload_n hx hb wdX12_writesWord_142 rfl (lv_at hl 0 rfl) ?_
    refine lv_aload_n hx hb wdX12_writesWord_143 rfl (lv_at hl 2 rfl) ?_
    refine f_12_2 F w (a := 146) rfl wtb_102 wdX12_writesWord_144 ?_
    refine lv_iconst (v := zI 0) hx hb wdX12_writesWord_147 rfl ?_
    refine g_iald F w (a := 148) rfl (j := 0) ⟨by decide, by decide⟩ (by omega) wdX12_writesWord_148 ?_
    refine r_val (v := (zI ((o.1 : Nat) : Int))) ((hR.tz i2).1.1) ?_
    refine z_icmp_ge (tgt := 224) hx hb (by omega) (by omega) wdX12_writesWord_149 (by decide) (fun c1 => ?_) (fun c1 => ?_)
    · exact kk t Nm _ _ ls (by have h9 := i1; rw [show t = o.1 by omega] at h9; exact h9) i2 w (lv_sub hl [] rfl)
    · refine lv_iconst (v := zI 0) hx hb wdX12_writesWord_152 rfl ?_
      refine lv_istore_n (lv' := [(3, .int (zI 0)), (2, .int (zI (t : Int))), (1, .int (zI (((lnA o.2.2 t (1, txB q hv ed o)).1 : Nat) : Int))), (0, .ref (B + 146))]) hx hb wdX12_writesWord_153 rfl hl (by decide) rfl (fun ls hl => ?_)
      replace hl : lv_has ls 4 [(3, .int (zI 0)), (2, .int (zI (t : Int))), (1, .int (zI (((lnR t (o.2.2 t) 0 (lnA o.2.2 t (1, txB q hv ed o))).1 : Nat) : Int))), (0, .ref (B + 146))] := hl
      refine lp_X12_ww4  F (by omega) (by omega) hR hn9 (t := t) (by omega) (fun sy Nm2 H locs ls x0 x1 w hl => ?_) q 0 Nm (by omega) i1 i2 (by omega) _ _ ls w (lv_sub hl [0, 1, 2, 3] rfl)
      refine z_iinc (v := (((t + 1) : Nat) : Int)) (lv' := [(2, .int (zI (((t + 1) : Nat) : Int))), (1, .int (zI (((lnA o.2.2 (t + 1) (1, txB q hv ed o)).1 : Nat) : Int))), (0, .ref (B + 146))]) hx hb wdX12_writesWord_218 hl (k := 0) rfl (by omega) (by decide) rfl (fun ls hl => ?_)
      refine lv_goto (tgt := 142) hx hb wdX12_writesWord_221 (by decide) ?_
      exact ih (t + 1) Nm2 (by omega) x0 x1 (by omega) _ _ ls w (lv_sub hl [0, 1, 2] rfl)
theorem wdX12_writesWord_0 : decode cX12_writesWord 0 = .ok (.aload_n 0, 1) := dX12_writesWord_0
theorem wdX12_writesWord_1 : decode cX12_writesWord 1 = .ok (.iconst 0, 1) := dX12_writesWord_1
theorem wdX12_writesWord_2 : decode cX12_writesWord 2 = .ok (.putfield 291, 3) := dX12_writesWord_2
theorem wdX12_writesWord_5 : decode cX12_writesWord 5 = .ok (.iconst 0, 1) := dX12_writesWord_5
theorem wdX12_writesWord_6 : decode cX12_writesWord 6 = .ok (.istore_n 1, 1) := dX12_writesWord_6
theorem wdX12_writesWord_62 : decode cX12_writesWord 62 = .ok (.aload_n 0, 1) := dX12_writesWord_62
theorem wdX12_writesWord_63 : decode cX12_writesWord 63 = .ok (.bipush 47, 2) := dX12_writesWord_63
theorem wdX12_writesWord_65 : decode cX12_writesWord 65 = .ok (.invokevirtual 294, 3) := dX12_writesWord_65
theorem wdX12_writesWord_68 : decode cX12_writesWord 68 = .ok (.iconst 0, 1) := dX12_writesWord_68
theorem wdX12_writesWord_69 : decode cX12_writesWord 69 = .ok (.istore_n 1, 1) := dX12_writesWord_69
theorem wdX12_writesWord_132 : decode cX12_writesWord 132 = .ok (.aload_n 0, 1) := dX12_writesWord_132
theorem wdX12_writesWord_133 : decode cX12_writesWord 133 = .ok (.bipush 47, 2) := dX12_writesWord_133
theorem wdX12_writesWord_135 : decode cX12_writesWord 135 = .ok (.invokevirtual 294, 3) := dX12_writesWord_135
theorem wdX12_writesWord_138 : decode cX12_writesWord 138 = .ok (.iconst 1, 1) := dX12_writesWord_138
theorem wdX12_writesWord_139 : decode cX12_writesWord 139 = .ok (.istore_n 1, 1) := dX12_writesWord_139
theorem wdX12_writesWord_140 : decode cX12_writesWord 140 = .ok (.iconst 0, 1) := dX12_writesWord_140
theorem wdX12_writesWord_141 : decode cX12_writesWord 141 = .ok (.istore_n 2, 1) := dX12_writesWord_141
theorem wdX12_writesWord_224 : decode cX12_writesWord 224 = .ok (.return_, 1) := dX12_writesWord_224
set_option maxRecDepth 4000 in
theorem k_writesWord {l : Launch} {D : va_G} {B : Nat} {cy : Nat → ClassId} {M : Mem} {q hv ed : Nat} {o : Wo} {z9 : Int} (hR : RW M q hv ed o z9) (hn9 : ncW o) : Cv l D B cy yX12_writesWord cX12_writesWord 4 2 42 [.ref (B + 146)] M (fun M1 => isTy M1 (txF q hv ed o) ∧ FrZ M1 M) := by
  refine s_any (by decide) (Nat.le_of_ble_eq_true rfl) ?_
  intro p e s m below meth c ls F hr hlocks w hl
  have F : CallFix p m c cX12_writesWord 4 s _ TB RX12 := F
  have hx := F.1
  have hb := F.2.1
  have hl : lv_has ls 4 [(0, .ref (B + 146))] := hl
  have hW := hR.1
  have hwf := hR.wf
  have hKL := hwf.2.2.2.2
  have hn12 := hwf.1
  have hq12 := hwf.2.1
  have hhv := hwf.2.2.1
  have hed := hwf.2.2.2.1
  have hc := hR.2.2.2.2
  refine lv_aload_n hx hb wdX12_writesWord_0 rfl (lv_at hl 0 rfl) ?_
  refine lv_iconst (v := zI 0) hx hb wdX12_writesWord_1 rfl ?_
  refine u_12_22 F w (a := 146) rfl wtb_411 wdX12_writesWord_2 (fun H locs w => ?_)
  refine lv_iconst (v := zI 0) hx hb wdX12_writesWord_5 rfl ?_
  refine lv_istore_n (lv' := [(1, .int (zI 0)), (0, .ref (B + 146))]) hx hb wdX12_writesWord_6 rfl hl (by decide) rfl (fun ls hl => ?_)
  refine lp_X12_ww1  F (Nat.le_of_ble_eq_true rfl) (Nat.le_of_ble_eq_true rfl) hR (fun t Nm H locs ls x0 x1 w hl => ?_) o.1 0 (st M 146 22 (zI 0)) (by omega) isTy_0 FrZ.z (by omega) _ _ ls w (lv_sub hl [0, 1] rfl)
  have hL8 := tT_len (K := o.2.1) o.1
  refine lv_aload_n hx hb wdX12_writesWord_62 rfl (lv_at hl 0 rfl) ?_
  refine lv_bipush (v := zI 47) hx hb wdX12_writesWord_63 (by decide) ?_
  refine k_Vv F w (As := [.int (zI 47)]) (rest := []) (a := 146) (kd_lt (a := 146) (show kd 146 = (12, 0, 0) from rfl) (by decide)) (sh_12 rfl _ _) rfl (k_writes (tx := (tT o.2.1 o.1)) x0 (by omega) (c9 := 47) (by omega)) wgv_X12_294 whv_X12_writes ⟨(Nat.le_of_ble_eq_true rfl), (Nat.le_of_ble_eq_true rfl)⟩ hl.1 rfl (Nat.le_of_ble_eq_true rfl) ⟨Nat.zero_le _, Nat.zero_le _⟩ wdX12_writesWord_65 (fun Ma2 H locs hp w => ?_)
  rcases hp with ⟨hTp1, hFp1⟩
  have hLp1 : ((tT o.2.1 o.1) ++ [47]).length = ((tT o.2.1 o.1)).length + 1 := len1
  have hGp1 : FrZ Ma2 M := FrZ.tr x1 hFp1
  refine lv_iconst (v := zI 0) hx hb wdX12_writesWord_68 rfl ?_
  refine lv_istore_n (lv' := [(1, .int (zI 0)), (0, .ref (B + 146))]) hx hb wdX12_writesWord_69 rfl hl (by decide) rfl (fun ls hl => ?_)
  refine lp_X12_ww2  F (Nat.le_of_ble_eq_true rfl) (Nat.le_of_ble_eq_true rfl) hR (fun sy Nm2 H locs ls x0 x1 w hl => ?_) q 0 Ma2 (by omega) hTp1 hGp1 (by omega) _ _ ls w (lv_sub hl [0, 1] rfl)
  have hL7 := tS_len (hv := hv) (ed := ed) (b := (tT o.2.1 o.1 ++ [47])) q
  refine lv_aload_n hx hb wdX12_writesWord_132 rfl (lv_at hl 0 rfl) ?_
  refine lv_bipush (v := zI 47) hx hb wdX12_writesWord_133 (by decide) ?_
  refine k_Vv F w (As := [.int (zI 47)]) (rest := []) (a := 146) (kd_lt (a := 146) (show kd 146 = (12, 0, 0) from rfl) (by decide)) (sh_12 rfl _ _) rfl (k_writes (tx := (tS hv ed (tT o.2.1 o.1 ++ [47]) q)) x0 (by omega) (c9 := 47) (by omega)) wgv_X12_294 whv_X12_writes ⟨(Nat.le_of_ble_eq_true rfl), (Nat.le_of_ble_eq_true rfl)⟩ hl.1 rfl (Nat.le_of_ble_eq_true rfl) ⟨Nat.zero_le _, Nat.zero_le _⟩ wdX12_writesWord_135 (fun Ma4 H locs hp w => ?_)
  rcases hp with ⟨hTp3, hFp3⟩
  have hLp3 : ((tS hv ed (tT o.2.1 o.1 ++ [47]) q) ++ [47]).length = ((tS hv ed (tT o.2.1 o.1 ++ [47]) q)).length + 1 := len1
  have hGp3 : FrZ Ma4 M := FrZ.tr x1 hFp3
  refine lv_iconst (v := zI 1) hx hb wdX12_writesWord_138 rfl ?_
  refine lv_istore_n (lv' := [(1, .int (zI 1)), (0, .ref (B + 146))]) hx hb wdX12_writesWord_139 rfl hl (by decide) rfl (fun ls hl => ?_)
  refine lv_iconst (v := zI 0) hx hb wdX12_writesWord_140 rfl ?_
  refine lv_istore_n (lv' := [(2, .int (zI 0)), (1, .int (zI 1)), (0, .ref (B + 146))]) hx hb wdX12_writesWord_141 rfl hl (by decide) rfl (fun ls hl => ?_)
  replace hl : lv_has ls 4 [(2, .int (zI 0)), (1, .int (zI (((lnA o.2.2 0 (1, txB q hv ed o)).1 : Nat) : Int))), (0, .ref (B + 146))] := hl
  refine lp_X12_ww3  F (Nat.le_of_ble_eq_true rfl) (Nat.le_of_ble_eq_true rfl) hR hn9 (fun t Nm3 H locs ls x0 x1 w hl => ?_) o.1 0 Ma4 (by omega) (by exact hTp3) hGp3 (by omega) _ _ ls w (lv_sub hl [0, 1, 2] rfl)
  exact e_v F w hr hlocks ⟨x0, x1⟩ wdX12_writesWord_224
theorem wdX12_spell_0 : decode cX12_spell 0 = .ok (.aload_n 0, 1) := dX12_spell_0
theorem wdX12_spell_1 : decode cX12_spell 1 = .ok (.iload_n 1, 1) := dX12_spell_1
theorem wdX12_spell_2 : decode cX12_spell 2 = .ok (.invokevirtual 261, 3) := dX12_spell_2
theorem wdX12_spell_5 : decode cX12_spell 5 = .ok (.ifCond .eq 8, 3) := dX12_spell_5
theorem wdX12_spell_8 : decode cX12_spell 8 = .ok (.iload_n 2, 1) := dX12_spell_8
theorem wdX12_spell_9 : decode cX12_spell 9 = .ok (.iconst (-1), 1) := dX12_spell_9
theorem wdX12_spell_10 : decode cX12_spell 10 = .ok (.if_icmp .ge 5, 3) := dX12_spell_10
theorem wdX12_spell_15 : decode cX12_spell 15 = .ok (.aload_n 0, 1) := dX12_spell_15
theorem wdX12_spell_16 : decode cX12_spell 16 = .ok (.invokevirtual 300, 3) := dX12_spell_16
theorem wtk_X12_writesWord : Cond.code yX12_writesWord cX12_writesWord 4 none ∈ TB := tk_X12_writesWord
theorem wgc_X12_writesWord : GoodIn TB (cw yX12_writesWord cX12_writesWord 4 none) := goodIn_c2 wtk_X12_writesWord
theorem wtb_418 : Cond.methodLink "ToneLinesModel" 300 yX12_writesWord ∈ TB := tb_705
theorem wtb_419 : Cond.instanceMethod yX12_writesWord ∈ TB := tb_706
theorem wtb_420 : Cond.selects "ToneLinesModel" yX12_writesWord yX12_writesWord ∈ TB := tb_707
theorem wgv_X12_300 : GoodIn TB (wsV RX12 300 RX12 yX12_writesWord (cw yX12_writesWord cX12_writesWord 4 none)) := goodIn_4 wtb_418 wtb_419 wtb_420 wtb_105 wgc_X12_writesWord
theorem whv_X12_writesWord : yX12_writesWord.cls = RX12 ∧ yX12_writesWord.cls ≠ "java/lang/invoke/MethodHandle" ∧ yX12_writesWord.cls ≠ "java/lang/invoke/VarHandle" ∧ (parseMethodDescriptor yX12_writesWord.desc).map (fun d => d.parameters.length) = some 0 := hv_X12_writesWord
theorem wdX12_spell_19 : decode cX12_spell 19 = .ok (.iload_n 2, 1) := dX12_spell_19
theorem wdX12_spell_20 : decode cX12_spell 20 = .ok (.iconst (-1), 1) := dX12_spell_20
theorem wdX12_spell_21 : decode cX12_spell 21 = .ok (.if_icmp .ne 10, 3) := dX12_spell_21
theorem wdX12_spell_31 : decode cX12_spell 31 = .ok (.iload_n 2, 1) := dX12_spell_31
theorem wdX12_spell_32 : decode cX12_spell 32 = .ok (.aload_n 0, 1) := dX12_spell_32
theorem wdX12_spell_33 : decode cX12_spell 33 = .ok (.getfield 291, 3) := dX12_spell_33
theorem wdX12_spell_36 : decode cX12_spell 36 = .ok (.if_icmp .ge 12, 3) := dX12_spell_36
theorem wdX12_spell_48 : decode cX12_spell 48 = .ok (.iconst (-1), 1) := dX12_spell_48
theorem wdX12_spell_49 : decode cX12_spell 49 = .ok (.ireturn, 1) := dX12_spell_49
theorem wdX12_spell_39 : decode cX12_spell 39 = .ok (.aload_n 0, 1) := dX12_spell_39
theorem wdX12_spell_40 : decode cX12_spell 40 = .ok (.getfield 42, 3) := dX12_spell_40
theorem wdX12_spell_43 : decode cX12_spell 43 = .ok (.iload_n 2, 1) := dX12_spell_43
theorem wdX12_spell_44 : decode cX12_spell 44 = .ok (.iaload, 1) := dX12_spell_44
theorem wdX12_spell_45 : decode cX12_spell 45 = .ok (.goto 4, 3) := dX12_spell_45
theorem wdX12_spell_24 : decode cX12_spell 24 = .ok (.aload_n 0, 1) := dX12_spell_24
theorem wdX12_spell_25 : decode cX12_spell 25 = .ok (.getfield 291, 3) := dX12_spell_25
theorem wdX12_spell_28 : decode cX12_spell 28 = .ok (.goto 21, 3) := dX12_spell_28
theorem wdX12_spell_13 : decode cX12_spell 13 = .ok (.iconst (-1), 1) := dX12_spell_13
theorem wdX12_spell_14 : decode cX12_spell 14 = .ok (.ireturn, 1) := dX12_spell_14
set_option maxRecDepth 4000 in
theorem k_spell {l : Launch} {D : va_G} {B : Nat} {cy : Nat → ClassId} {M : Mem} {Ps : Nat → Nat → Int} {mr k q hv ed : Nat} {o : Wo} {Hs : Nat → Fw} (hS : MS M Ps mr (q, hv, ed, o) Hs k) (hn9 : ncW o) {n9 i9 : Int} (hn8 : rg n9) (hi9 : rg i9) : Ci l D B cy yX12_spell cX12_spell 3 (some .int) 10 233 [.ref (B + 146), .int (zI n9), .int (zI i9)] M (fun r M1 => r = zI (ofA Ps mr (q, hv, ed, o) n9 (spA i9))) := by
  refine s_any (by decide) (Nat.le_of_ble_eq_true rfl) ?_
  intro p e s m below meth c ls F hr hlocks w hl
  have F : CallFix p m c cX12_spell 3 s _ TB RX12 := F
  have hx := F.1
  have hb := F.2.1
  have hl : lv_has ls 3 [(0, .ref (B + 146)), (1, .int (zI n9)), (2, .int (zI i9))] := hl
  have hm8 := hS.1.1
  have hk12 := hS.2.2.2.2.1
  have hC : TW M q hv ed o := hS.T
  have hW : isR M 147 o.1 q hv ed o.2.1 o.2.2 := hC.1
  have hwf := hC.wf
  have hKL := hwf.2.2.2.2
  have hn12 := hwf.1
  have hq12 := hwf.2.1
  have hhv := hwf.2.2.1
  have hed := hwf.2.2.2.1
  refine lv_aload_n hx hb wdX12_spell_0 rfl (lv_at hl 0 rfl) ?_
  refine lv_iload_n hx hb wdX12_spell_1 rfl (lv_at hl 1 rfl) ?_
  refine k_Vi F w (As := [.int (zI n9)]) (rest := []) (a := 146) (kd_lt (a := 146) (show kd 146 = (12, 0, 0) from rfl) (by decide)) (sh_12 rfl _ _) rfl (m_lays hS (n9 := n9) (by omega)) wgv_X12_261 whv_X12_lays ⟨(Nat.le_of_ble_eq_true rfl), (Nat.le_of_ble_eq_true rfl)⟩ hl.1 rfl (Nat.le_of_ble_eq_true rfl) ⟨Nat.zero_le _, Nat.zero_le _⟩ wdX12_spell_2 (fun r Ma1 H locs hp w => ?_)
  rcases hp with ⟨nn, rfl, hnn, rfl, z9, hRs⟩ | ⟨hnc, rfl⟩
  · obtain ⟨o1, ho1⟩ : ∃ o1, o1 = sg9 Ps (q, hv, ed, o) nn := ⟨_, rfl⟩
    have hR : RW Ma1 q hv ed o1 z9 := by rw [ho1]; exact hRs
    have hW1 := hR.1
    have hwf1 := hR.wf
    have hKL1 := hwf1.2.2.2.2
    have hn1 := hwf1.1
    have hc1 := hR.2.2.2.2
    refine z_if_eq (tgt := 13) hx hb (by omega) wdX12_spell_5 (by decide) (fun c2 => False.elim (by omega)) (fun c2 => ?_)
    refine lv_iload_n hx hb wdX12_spell_8 rfl (lv_at hl 2 rfl) ?_
    refine lv_iconst (v := zI (-1)) hx hb wdX12_spell_9 rfl ?_
    refine z_icmp_ge (tgt := 15) hx hb (by omega) (by omega) wdX12_spell_10 (by decide) (fun c3 => ?_) (fun c3 => ?_)
    · have hnc1 : ncW o1 := by rw [ho1]; exact nc_dvF hn9 nn (fun j hj => (hS.1.2 j (by omega)).2)
      refine lv_aload_n hx hb wdX12_spell_15 rfl (lv_at hl 0 rfl) ?_
      refine k_Vv F w (As := []) (rest := []) (a := 146) (kd_lt (a := 146) (show kd 146 = (12, 0, 0) from rfl) (by decide)) (sh_12 rfl _ _) rfl (k_writesWord hR hnc1) wgv_X12_300 whv_X12_writesWord ⟨(Nat.le_of_ble_eq_true rfl), (Nat.le_of_ble_eq_true rfl)⟩ hl.1 rfl (Nat.le_of_ble_eq_true rfl) ⟨Nat.zero_le _, Nat.zero_le _⟩ wdX12_spell_16 (fun Ma4 H locs hp w => ?_)
      rcases hp with ⟨hTx, hFx⟩
      have htl := tx_len (hv := hv) (ed := ed) hR.2.1 hnc1
      refine lv_iload_n hx hb wdX12_spell_19 rfl (lv_at hl 2 rfl) ?_
      refine lv_iconst (v := zI (-1)) hx hb wdX12_spell_20 rfl ?_
      refine z_icmp_ne (tgt := 31) hx hb (by omega) (by omega) wdX12_spell_21 (by decide) (fun c5 => ?_) (fun c5 => ?_)
      · refine lv_iload_n hx hb wdX12_spell_31 rfl (lv_at hl 2 rfl) ?_
        refine lv_aload_n hx hb wdX12_spell_32 rfl (lv_at hl 0 rfl) ?_
        refine f_12_22 F w (a := 146) rfl wtb_411 wdX12_spell_33 ?_
        refine r_val (v := (zI (((txF q hv ed o1).length : Nat) : Int))) (hTx.1) ?_
        refine z_icmp_ge (tgt := 48) hx hb (by omega) (by omega) wdX12_spell_36 (by decide) (fun c6 => ?_) (fun c6 => ?_)
        · refine lv_iconst (v := zI (-1)) hx hb wdX12_spell_48 rfl ?_
          exact e_i F w hr hlocks (congrArg zI ((ofA_y hnn).trans (by rw [← ho1]; exact spA_n (q := q) (hv := hv) (ed := ed) (by omega) (by omega))).symm) wdX12_spell_49
        · obtain ⟨ii, rfl⟩ : ∃ n8 : Nat, i9 = (n8 : Int) := ⟨Int.toNat i9, by omega⟩
          refine lv_aload_n hx hb wdX12_spell_39 rfl (lv_at hl 0 rfl) ?_
          refine f_12_21 F w (a := 146) rfl wtb_410 wdX12_spell_40 ?_
          refine lv_iload_n hx hb wdX12_spell_43 rfl (lv_at hl 2 rfl) ?_
          refine g_iald F w (a := 156) rfl (j := ii) (ix_n (by omega)) (by omega) wdX12_spell_44 ?_
          refine r_val (v := (zI ((((txF q hv ed o1).getD ii 0) : Nat) : Int))) (hTx.2 ii (by omega)) ?_
          refine lv_goto (tgt := 49) hx hb wdX12_spell_45 (by decide) ?_
          exact e_i F w hr hlocks (congrArg zI ((ofA_y hnn).trans (by rw [← ho1]; exact spA_y (q := q) (hv := hv) (ed := ed) (by omega))).symm) wdX12_spell_49
      · refine lv_aload_n hx hb wdX12_spell_24 rfl (lv_at hl 0 rfl) ?_
        refine f_12_22 F w (a := 146) rfl wtb_411 wdX12_spell_25 ?_
        refine r_val (v := (zI (((txF q hv ed o1).length : Nat) : Int))) (hTx.1) ?_
        refine lv_goto (tgt := 49) hx hb wdX12_spell_28 (by decide) ?_
        exact e_i F w hr hlocks (congrArg zI ((ofA_y hnn).trans (by rw [← ho1]; exact spA_m (by omega))).symm) wdX12_spell_49
    · refine lv_iconst (v := zI (-1)) hx hb wdX12_spell_13 rfl ?_
      exact e_i F w hr hlocks (congrArg zI ((ofA_y hnn).trans (spA_n (by omega) (by omega))).symm) wdX12_spell_14
  · refine z_if_eq (tgt := 13) hx hb (by omega) wdX12_spell_5 (by decide) (fun c7 => ?_) (fun c7 => False.elim (by omega))
    refine lv_iconst (v := zI (-1)) hx hb wdX12_spell_13 rfl ?_
    exact e_i F w hr hlocks (congrArg zI (ofA_n hnc).symm) wdX12_spell_14
