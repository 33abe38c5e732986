theorem wdX12_worksOrder_53 : decode cX12_worksOrder 53 = .ok (.iload 7, 2) := dX12_worksOrder_53
theorem wdX12_worksOrder_55 : decode cX12_worksOrder 55 = .ok (.iload 5, 2) := dX12_worksOrder_55
theorem wdX12_worksOrder_57 : decode cX12_worksOrder 57 = .ok (.if_icmp .ge 26, 3) := dX12_worksOrder_57
theorem wdX12_worksOrder_60 : decode cX12_worksOrder 60 = .ok (.iload_n 2, 1) := dX12_worksOrder_60
theorem wdX12_worksOrder_61 : decode cX12_worksOrder 61 = .ok (.iconst 1, 1) := dX12_worksOrder_61
theorem wdX12_worksOrder_62 : decode cX12_worksOrder 62 = .ok (.iload 6, 2) := dX12_worksOrder_62
theorem wdX12_worksOrder_64 : decode cX12_worksOrder 64 = .ok (.iconst 1, 1) := dX12_worksOrder_64
theorem wdX12_worksOrder_65 : decode cX12_worksOrder 65 = .ok (.iadd, 1) := dX12_worksOrder_65
theorem wdX12_worksOrder_66 : decode cX12_worksOrder 66 = .ok (.ishl, 1) := dX12_worksOrder_66
theorem wdX12_worksOrder_67 : decode cX12_worksOrder 67 = .ok (.iconst 1, 1) := dX12_worksOrder_67
theorem wdX12_worksOrder_68 : decode cX12_worksOrder 68 = .ok (.isub, 1) := dX12_worksOrder_68
theorem wdX12_worksOrder_69 : decode cX12_worksOrder 69 = .ok (.iconst (-1), 1) := dX12_worksOrder_69
theorem wdX12_worksOrder_70 : decode cX12_worksOrder 70 = .ok (.ixor, 1) := dX12_worksOrder_70
theorem wdX12_worksOrder_71 : decode cX12_worksOrder 71 = .ok (.iand, 1) := dX12_worksOrder_71
theorem wdX12_worksOrder_72 : decode cX12_worksOrder 72 = .ok (.invokestatic 63, 3) := dX12_worksOrder_72
theorem wdX12_worksOrder_75 : decode cX12_worksOrder 75 = .ok (.istore 6, 2) := dX12_worksOrder_75
theorem wdX12_worksOrder_77 : decode cX12_worksOrder 77 = .ok (.iinc 7 1, 3) := dX12_worksOrder_77
theorem wdX12_worksOrder_80 : decode cX12_worksOrder 80 = .ok (.goto (-27), 3) := dX12_worksOrder_80
set_option maxRecDepth 4000 in
theorem lp_X12_worksOrder2 {p : Program} {l : Launch} {e : Env} {s : State} {m : MethodId} {args : Array Value} {below : List Frame} {meth : Method} {c : Code} {D : va_G} {B : Nat} {cy : Nat → ClassId} {H0 : Heap} {Q : State → Prop} {M : Mem} {R : Room} {left sz pk cd : Nat} (F : CallFix p m c cX12_worksOrder 8 s args TB RX12) (hR1 : 2 ≤ R.frames) (hR2 : 42 ≤ R.locals) (hle : left < 64) (hsz : pop left = sz) (hpk : pk < sz) (h61 : pop left ≤ 6) (kk : ∀ (i : Nat) (H : Heap) (locs : List Loc) (ls : Array Slot), (i = pk) → Wd D B cy s H0 M H locs → lv_has ls 8 [(6, .int (zI (((nb9 left i) : Nat) : Int))), (5, .int (zI (pk : Int))), (4, .int (zI (sz : Int))), (3, .int (zI (cd : Int))), (2, .int (zI (left : Int))), (0, .ref (B + 146))] → W p l e R s m args below meth c H locs 0 0 Q (F0 m 83 ls [])) : ∀ (f : Nat) (i : Nat), (i ≤ pk) → (pk ≤ i + f) → ∀ (H : Heap) (locs : List Loc) (ls : Array Slot), Wd D B cy s H0 M H locs → lv_has ls 8 [(7, .int (zI (i : Int))), (6, .int (zI (((nb9 left i) : Nat) : Int))), (5, .int (zI (pk : Int))), (4, .int (zI (sz : Int))), (3, .int (zI (cd : Int))), (2, .int (zI (left : Int))), (0, .ref (B + 146))] → W p l e R s m args below meth c H locs 0 0 Q (F0 m 53 ls []) := by
  have hx := F.1
  have hb := F.2.1
  intro f
  induction f with
  | zero =>
    intro i i0 hf H locs ls w hl
    refine lv_iload hx hb wdX12_worksOrder_53 (lv_at hl 0 rfl) ?_
    refine lv_iload hx hb wdX12_worksOrder_55 (lv_at hl 2 rfl) ?_
    refine z_icmp_ge (tgt := 83) hx hb (by omega) (by omega) wdX12_worksOrder_57 (by decide) (fun c1 => ?_) (fun c1 => False.elim (by omega))
    exact kk i _ _ ls (by omega) w (lv_sub hl [1, 2, 3, 4, 5, 6] rfl)
  | succ f ih =>
    intro i i0 hf H locs ls w hl
    refine lv_iload hx hb wdX12_worksOrder_53 (lv_at hl 0 rfl) ?_
    refine lv_iload hx hb wdX12_worksOrder_55 (lv_at hl 2 rfl) ?_
    refine z_icmp_ge (tgt := 83) hx hb (by omega) (by omega) wdX12_worksOrder_57 (by decide) (fun c1 => ?_) (fun c1 => ?_)
    · exact kk i _ _ ls (by omega) w (lv_sub hl [1, 2, 3, 4, 5, 6] rfl)
    · have hns := nb_s left hle i (by omega) (by omega)
      have hnb := (nb_t left hle i (by omega) (by omega)).1
      refine lv_iload_n hx hb wdX12_worksOrder_60 rfl (lv_at hl 5 rfl) ?_
      refine lv_iconst (v := zI 1) hx hb wdX12_worksOrder_61 rfl ?_
      refine lv_iload hx hb wdX12_worksOrder_62 (lv_at hl 1 rfl) ?_
      refine lv_iconst (v := zI 1) hx hb wdX12_worksOrder_64 rfl ?_
      refine z_iadd (z := ((((nb9 left i) + 1) : Nat) : Int)) hx hb wdX12_worksOrder_65 (by omega) ?_
      refine lv_ishl hx hb wdX12_worksOrder_66 ?_
      refine r_val (v := (zI (((2 ^ ((nb9 left i) + 1)) : Nat) : Int))) (zb_shl (n := ((nb9 left i) + 1)) (by omega)) ?_
      have q2 := p2_b (n := ((nb9 left i) + 1)) (by omega)
      refine lv_iconst (v := zI 1) hx hb wdX12_worksOrder_67 rfl ?_
      refine z_isub (z := ((((2 ^ ((nb9 left i) + 1)) - 1) : Nat) : Int)) hx hb wdX12_worksOrder_68 (by omega) ?_
      refine lv_iconst (v := zI (-1)) hx hb wdX12_worksOrder_69 rfl ?_
      refine lv_ixor hx hb wdX12_worksOrder_70 ?_
      refine lv_iand hx hb wdX12_worksOrder_71 ?_
      refine r_val (v := (zI (((andn left ((2 ^ ((nb9 left i) + 1)) - 1)) : Nat) : Int))) (zb_andn _ _) ?_
      have q4 := andn_le left ((2 ^ ((nb9 left i) + 1)) - 1)
      refine x_Si F w (As := [.int (zI (((andn left ((2 ^ ((nb9 left i) + 1)) - 1)) : Nat) : Int))]) (rest := []) (s_X12_firstOf (m9 := (andn left ((2 ^ ((nb9 left i) + 1)) - 1))) (by omega)) wgs_X12_63 whs_X12_firstOf ⟨(by omega), (by omega)⟩ hl.1 rfl (Nat.le_of_ble_eq_true rfl) ⟨Nat.zero_le _, Nat.zero_le _⟩ wdX12_worksOrder_72 (fun H locs w => ?_)
      refine r_val (v := zI ((low (andn left ((2 ^ ((nb9 left i) + 1)) - 1)) : Nat) : Int)) (congrArg zI (lowI_nz hns.1)) ?_
      refine lv_istore (lv' := [(6, .int (zI (((low (andn left ((2 ^ ((nb9 left i) + 1)) - 1))) : Nat) : Int))), (7, .int (zI (i : Int))), (5, .int (zI (pk : Int))), (4, .int (zI (sz : Int))), (3, .int (zI (cd : Int))), (2, .int (zI (left : Int))), (0, .ref (B + 146))]) hx hb wdX12_worksOrder_75 hl (by decide) rfl (fun ls hl => ?_)
      refine z_iinc (v := (((i + 1) : Nat) : Int)) (lv' := [(7, .int (zI (((i + 1) : Nat) : Int))), (6, .int (zI (((low (andn left ((2 ^ ((nb9 left i) + 1)) - 1))) : Nat) : Int))), (5, .int (zI (pk : Int))), (4, .int (zI (sz : Int))), (3, .int (zI (cd : Int))), (2, .int (zI (left : Int))), (0, .ref (B + 146))]) hx hb wdX12_worksOrder_77 hl (k := 1) rfl (by omega) (by decide) rfl (fun ls hl => ?_)
      refine lv_goto (tgt := 53) hx hb wdX12_worksOrder_80 (by decide) ?_
      replace hl : lv_has ls 8 [(7, .int (zI (((i + 1) : Nat) : Int))), (6, .int (zI (((nb9 left (i + 1)) : Nat) : Int))), (5, .int (zI (pk : Int))), (4, .int (zI (sz : Int))), (3, .int (zI (cd : Int))), (2, .int (zI (left : Int))), (0, .ref (B + 146))] := hl
      exact ih (i + 1) (by omega) (by omega) _ _ ls w (lv_sub hl [0, 1, 2, 3, 4, 5, 6] rfl)
theorem wdX12_worksOrder_28 : decode cX12_worksOrder 28 = .ok (.iload 4, 2) := dX12_worksOrder_28
theorem wdX12_worksOrder_30 : decode cX12_worksOrder 30 = .ok (.ifCond .le 75, 3) := dX12_worksOrder_30
theorem wdX12_worksOrder_33 : decode cX12_worksOrder 33 = .ok (.iload_n 3, 1) := dX12_worksOrder_33
theorem wdX12_worksOrder_34 : decode cX12_worksOrder 34 = .ok (.iload 4, 2) := dX12_worksOrder_34
theorem wdX12_worksOrder_36 : decode cX12_worksOrder 36 = .ok (.irem, 1) := dX12_worksOrder_36
theorem wdX12_worksOrder_37 : decode cX12_worksOrder 37 = .ok (.istore 5, 2) := dX12_worksOrder_37
theorem wdX12_worksOrder_39 : decode cX12_worksOrder 39 = .ok (.iload_n 3, 1) := dX12_worksOrder_39
theorem wdX12_worksOrder_40 : decode cX12_worksOrder 40 = .ok (.iload 4, 2) := dX12_worksOrder_40
theorem wdX12_worksOrder_42 : decode cX12_worksOrder 42 = .ok (.idiv, 1) := dX12_worksOrder_42
theorem wdX12_worksOrder_43 : decode cX12_worksOrder 43 = .ok (.istore_n 3, 1) := dX12_worksOrder_43
theorem wdX12_worksOrder_44 : decode cX12_worksOrder 44 = .ok (.iload_n 2, 1) := dX12_worksOrder_44
theorem wdX12_worksOrder_45 : decode cX12_worksOrder 45 = .ok (.invokestatic 63, 3) := dX12_worksOrder_45
theorem wdX12_worksOrder_48 : decode cX12_worksOrder 48 = .ok (.istore 6, 2) := dX12_worksOrder_48
theorem wdX12_worksOrder_50 : decode cX12_worksOrder 50 = .ok (.iconst 0, 1) := dX12_worksOrder_50
theorem wdX12_worksOrder_51 : decode cX12_worksOrder 51 = .ok (.istore 7, 2) := dX12_worksOrder_51
theorem wdX12_worksOrder_83 : decode cX12_worksOrder 83 = .ok (.iload_n 2, 1) := dX12_worksOrder_83
theorem wdX12_worksOrder_84 : decode cX12_worksOrder 84 = .ok (.iconst 1, 1) := dX12_worksOrder_84
theorem wdX12_worksOrder_85 : decode cX12_worksOrder 85 = .ok (.iload 6, 2) := dX12_worksOrder_85
theorem wdX12_worksOrder_87 : decode cX12_worksOrder 87 = .ok (.ishl, 1) := dX12_worksOrder_87
theorem wdX12_worksOrder_88 : decode cX12_worksOrder 88 = .ok (.iconst (-1), 1) := dX12_worksOrder_88
theorem wdX12_worksOrder_89 : decode cX12_worksOrder 89 = .ok (.ixor, 1) := dX12_worksOrder_89
theorem wdX12_worksOrder_90 : decode cX12_worksOrder 90 = .ok (.iand, 1) := dX12_worksOrder_90
theorem wdX12_worksOrder_91 : decode cX12_worksOrder 91 = .ok (.istore_n 2, 1) := dX12_worksOrder_91
theorem wdX12_worksOrder_92 : decode cX12_worksOrder 92 = .ok (.aload_n 0, 1) := dX12_worksOrder_92
theorem wdX12_worksOrder_93 : decode cX12_worksOrder 93 = .ok (.iload 6, 2) := dX12_worksOrder_93
theorem wdX12_worksOrder_95 : decode cX12_worksOrder 95 = .ok (.invokevirtual 166, 3) := dX12_worksOrder_95
theorem wdX12_worksOrder_98 : decode cX12_worksOrder 98 = .ok (.pop, 1) := dX12_worksOrder_98
theorem wdX12_worksOrder_99 : decode cX12_worksOrder 99 = .ok (.iinc 4 (-1), 3) := dX12_worksOrder_99
theorem wdX12_worksOrder_102 : decode cX12_worksOrder 102 = .ok (.goto (-74), 3) := dX12_worksOrder_102
set_option maxRecDepth 4000 in
theorem lp_X12_worksOrder1 {p : Program} {l : Launch} {e : Env} {s : State} {m : MethodId} {args : Array Value} {below : List Frame} {meth : Method} {c : Code} {D : va_G} {B : Nat} {cy : Nat → ClassId} {H0 : Heap} {Q : State → Prop} {M : Mem} {R : Room} {Ps : Nat → Nat → Int} {mr k q hv ed c9 : Nat} {o : Wo} {Hs : Nat → Fw} (F : CallFix p m c cX12_worksOrder 8 s args TB RX12) (hR1 : 8 ≤ R.frames) (hR2 : 189 ≤ R.locals) (hm6 : mr ≤ 6) (kk : ∀ (sz : Nat) (left : Nat) (code : Nat) (cur : Wo) (z : Int) (Nm : Mem) (H : Heap) (locs : List Loc) (ls : Array Slot), (RW Nm q hv ed (odR Ps mr (q, hv, ed, o) c9) z) → (FrQ9 Nm M) → Wd D B cy s H0 Nm H locs → lv_has ls 8 [] → W p l e R s m args below meth c H locs 0 0 Q (F0 m 105 ls [])) : ∀ (f : Nat) (sz : Nat) (left : Nat) (code : Nat) (cur : Wo) (z : Int) (Nm : Mem), (left < 64) → (pop left = sz) → (∀ j, left.testBit j = true → j < mr) → (RW Nm q hv ed cur z) → (MS Nm Ps mr (q, hv, ed, o) Hs k) → (rsW Ps q hv ed sz left code cur = (odR Ps mr (q, hv, ed, o) c9)) → (code < 720) → (FrQ9 Nm M) → (sz ≤ f) → ∀ (H : Heap) (locs : List Loc) (ls : Array Slot), Wd D B cy s H0 Nm H locs → lv_has ls 8 [(4, .int (zI (sz : Int))), (3, .int (zI (code : Int))), (2, .int (zI (left : Int))), (0, .ref (B + 146))] → W p l e R s m args below meth c H locs 0 0 Q (F0 m 28 ls []) := by
  have hx := F.1
  have hb := F.2.1
  intro f
  induction f with
  | zero =>
    intro sz left code cur z Nm i0 i1 i2 i3 i4 i5 i6 i7 hf H locs ls w hl
    have h6s := (nb_1 i0).1
    refine lv_iload hx hb wdX12_worksOrder_28 (lv_at hl 0 rfl) ?_
    refine z_if_le (tgt := 105) hx hb (by omega) wdX12_worksOrder_30 (by decide) (fun c1 => ?_) (fun c1 => False.elim (by omega))
    exact kk sz left code cur z Nm _ _ ls (by have e9 : sz = 0 := (by omega); rw [e9] at i5; rw [← i5]; exact i3) i7 w (lv_sub hl [] rfl)
  | succ f ih =>
    intro sz left code cur z Nm i0 i1 i2 i3 i4 i5 i6 i7 hf H locs ls w hl
    have h6s := (nb_1 i0).1
    refine lv_iload hx hb wdX12_worksOrder_28 (lv_at hl 0 rfl) ?_
    refine z_if_le (tgt := 105) hx hb (by omega) wdX12_worksOrder_30 (by decide) (fun c1 => ?_) (fun c1 => ?_)
    · exact kk sz left code cur z Nm _ _ ls (by have e9 : sz = 0 := (by omega); rw [e9] at i5; rw [← i5]; exact i3) i7 w (lv_sub hl [] rfl)
    · obtain ⟨pk, epk⟩ : ∃ x9, code % sz = x9 := ⟨_, rfl⟩
      obtain ⟨cd, ecd⟩ : ∃ x9, code / sz = x9 := ⟨_, rfl⟩
      have hpk : pk < sz := by rw [← epk]; exact Nat.mod_lt _ (by omega)
      have hcd : cd ≤ code := by rw [← ecd]; exact Nat.div_le_self _ _
      have hl0 : left ≠ 0 := fun h9 => by rw [h9] at i1; have h8 : pop 0 = 0 := rfl; omega
      have h61 := (nb_1 i0).1
      refine lv_iload_n hx hb wdX12_worksOrder_33 rfl (lv_at hl 1 rfl) ?_
      refine lv_iload hx hb wdX12_worksOrder_34 (lv_at hl 0 rfl) ?_
      refine lv_irem hx hb wdX12_worksOrder_36 (nz_z (by omega) (by omega)) ?_
      refine r_val (v := zI (((code % sz) : Nat) : Int)) (rem_zI (by omega) (by omega)) ?_
      refine r_val (v := (zI (pk : Int))) (congrArg (fun v9 : Nat => zI (v9 : Int)) epk) ?_
      refine lv_istore (lv' := [(5, .int (zI (pk : Int))), (4, .int (zI (sz : Int))), (3, .int (zI (code : Int))), (2, .int (zI (left : Int))), (0, .ref (B + 146))]) hx hb wdX12_worksOrder_37 hl (by decide) rfl (fun ls hl => ?_)
      refine lv_iload_n hx hb wdX12_worksOrder_39 rfl (lv_at hl 2 rfl) ?_
      refine lv_iload hx hb wdX12_worksOrder_40 (lv_at hl 1 rfl) ?_
      refine lv_idiv hx hb wdX12_worksOrder_42 (nz_z (by omega) (by omega)) ?_
      refine r_val (v := zI (((code / sz) : Nat) : Int)) (div_zI (by omega) (by omega)) ?_
      refine r_val (v := (zI (cd : Int))) (congrArg (fun v9 : Nat => zI (v9 : Int)) ecd) ?_
      refine lv_istore_n (lv' := [(3, .int (zI (cd : Int))), (5, .int (zI (pk : Int))), (4, .int (zI (sz : Int))), (2, .int (zI (left : Int))), (0, .ref (B + 146))]) hx hb wdX12_worksOrder_43 rfl hl (by decide) rfl (fun ls hl => ?_)
      refine lv_iload_n hx hb wdX12_worksOrder_44 rfl (lv_at hl 3 rfl) ?_
      refine x_Si F w (As := [.int (zI (left : Int))]) (rest := []) (s_X12_firstOf (m9 := left) (by omega)) wgs_X12_63 whs_X12_firstOf ⟨(by omega), (by omega)⟩ hl.1 rfl (Nat.le_of_ble_eq_true rfl) ⟨Nat.zero_le _, Nat.zero_le _⟩ wdX12_worksOrder_45 (fun H locs w => ?_)
      refine r_val (v := zI ((nb9 left 0 : Nat) : Int)) (congrArg zI (lowI_nz hl0)) ?_
      refine lv_istore (lv' := [(6, .int (zI (((nb9 left 0) : Nat) : Int))), (3, .int (zI (cd : Int))), (5, .int (zI (pk : Int))), (4, .int (zI (sz : Int))), (2, .int (zI (left : Int))), (0, .ref (B + 146))]) hx hb wdX12_worksOrder_48 hl (by decide) rfl (fun ls hl => ?_)
      refine lv_iconst (v := zI 0) hx hb wdX12_worksOrder_50 rfl ?_
      refine lv_istore (lv' := [(7, .int (zI 0)), (6, .int (zI (((nb9 left 0) : Nat) : Int))), (3, .int (zI (cd : Int))), (5, .int (zI (pk : Int))), (4, .int (zI (sz : Int))), (2, .int (zI (left : Int))), (0, .ref (B + 146))]) hx hb wdX12_worksOrder_51 hl (by decide) rfl (fun ls hl => ?_)
      refine lp_X12_worksOrder2  F (by omega) (by omega) i0 i1 hpk h61 (fun i H locs ls x0 w hl => ?_) pk 0 (Nat.zero_le _) (by omega) _ _ ls w (lv_sub hl [0, 1, 3, 4, 2, 5, 6] rfl)
      rw [x0] at hl
      have hnt := nb_t left i0 pk (by omega) (by omega)
      have hrm := i2 _ hnt.2.1
      refine lv_iload_n hx hb wdX12_worksOrder_83 rfl (lv_at hl 4 rfl) ?_
      refine lv_iconst (v := zI 1) hx hb wdX12_worksOrder_84 rfl ?_
      refine lv_iload hx hb wdX12_worksOrder_85 (lv_at hl 0 rfl) ?_
      refine lv_ishl hx hb wdX12_worksOrder_87 ?_
      refine r_val (v := (zI (((2 ^ (nb9 left pk)) : Nat) : Int))) (zb_shl (n := (nb9 left pk)) (by omega)) ?_
      have q3 := p2_b (n := (nb9 left pk)) (by omega)
      refine lv_iconst (v := zI (-1)) hx hb wdX12_worksOrder_88 rfl ?_
      refine lv_ixor hx hb wdX12_worksOrder_89 ?_
      refine lv_iand hx hb wdX12_worksOrder_90 ?_
      refine r_val (v := (zI (((andn left (2 ^ (nb9 left pk))) : Nat) : Int))) (zb_andn _ _) ?_
      have q5 := andn_le left (2 ^ (nb9 left pk))
      refine lv_istore_n (lv' := [(2, .int (zI (((andn left (2 ^ (nb9 left pk))) : Nat) : Int))), (6, .int (zI (((nb9 left pk) : Nat) : Int))), (5, .int (zI (pk : Int))), (4, .int (zI (sz : Int))), (3, .int (zI (cd : Int))), (0, .ref (B + 146))]) hx hb wdX12_worksOrder_91 rfl hl (by decide) rfl (fun ls hl => ?_)
      refine lv_aload_n hx hb wdX12_worksOrder_92 rfl (lv_at hl 5 rfl) ?_
      refine lv_iload hx hb wdX12_worksOrder_93 (lv_at hl 1 rfl) ?_
      refine k_Vi F w (As := [.int (zI (((nb9 left pk) : Nat) : Int))]) (rest := []) (a := 146) (kd_lt (a := 146) (show kd 146 = (12, 0, 0) from rfl) (by decide)) (sh_12 rfl _ _) rfl (s_X12_works i3 (r := nb9 left pk) (by omega) (i4.1.2 (nb9 left pk) hrm).1 (i4.1.2 (nb9 left pk) hrm).2) wgv_X12_166 whv_X12_works ⟨(by omega), (by omega)⟩ hl.1 rfl (Nat.le_of_ble_eq_true rfl) ⟨Nat.zero_le _, Nat.zero_le _⟩ wdX12_worksOrder_95 (fun r Ma6 H locs hp w => ?_)
      rcases hp with ⟨oU, dU, pU, eU, rfl, ⟨zU, hRU⟩, hFU, hpU, hdU, hp20⟩
      have hSU := i4.fw hFU
      refine lv_pop hx hb wdX12_worksOrder_98 rfl ?_
      refine z_iinc (v := ((sz : Int) - 1)) (lv' := [(4, .int (zI ((sz : Int) - 1))), (2, .int (zI (((andn left (2 ^ (nb9 left pk))) : Nat) : Int))), (6, .int (zI (((nb9 left pk) : Nat) : Int))), (5, .int (zI (pk : Int))), (3, .int (zI (cd : Int))), (0, .ref (B + 146))]) hx hb wdX12_worksOrder_99 hl (k := 3) rfl (by omega) (by decide) rfl (fun ls hl => ?_)
      refine lv_goto (tgt := 28) hx hb wdX12_worksOrder_102 (by decide) ?_
      replace hl : lv_has ls 8 [(4, .int (zI (((sz - 1) : Nat) : Int))), (2, .int (zI (((andn left (2 ^ (nb9 left pk))) : Nat) : Int))), (6, .int (zI (((nb9 left pk) : Nat) : Int))), (5, .int (zI (pk : Int))), (3, .int (zI (cd : Int))), (0, .ref (B + 146))] := by rw [show ((sz - 1 : Nat) : Int) = (sz : Int) - 1 by omega]; exact hl
      exact ih (sz - 1) (andn left (2 ^ nb9 left pk)) cd oU zU Ma6 hnt.2.2.1 (by have h9 := hnt.2.2.2; omega) (fun j hj => i2 j (andn_t hj)) hRU hSU (by rw [← i5, rsw_s (by omega) (by rw [epk]) eU, ecd]) (by omega) (FrQ9.tr i7 hFU) (by omega) _ _ ls w (lv_sub hl [0, 4, 1, 5] rfl)
theorem wdX12_worksOrder_0 : decode cX12_worksOrder 0 = .ok (.aload_n 0, 1) := dX12_worksOrder_0
theorem wdX12_worksOrder_1 : decode cX12_worksOrder 1 = .ok (.getfield 17, 3) := dX12_worksOrder_1
theorem wdX12_worksOrder_4 : decode cX12_worksOrder 4 = .ok (.aload_n 0, 1) := dX12_worksOrder_4
theorem wdX12_worksOrder_5 : decode cX12_worksOrder 5 = .ok (.getfield 13, 3) := dX12_worksOrder_5
theorem wdX12_worksOrder_8 : decode cX12_worksOrder 8 = .ok (.invokestatic 162, 3) := dX12_worksOrder_8
theorem wdX12_worksOrder_11 : decode cX12_worksOrder 11 = .ok (.iconst 1, 1) := dX12_worksOrder_11
theorem wdX12_worksOrder_12 : decode cX12_worksOrder 12 = .ok (.aload_n 0, 1) := dX12_worksOrder_12
theorem wdX12_worksOrder_13 : decode cX12_worksOrder 13 = .ok (.getfield 239, 3) := dX12_worksOrder_13
theorem wdX12_worksOrder_16 : decode cX12_worksOrder 16 = .ok (.ishl, 1) := dX12_worksOrder_16
theorem wdX12_worksOrder_17 : decode cX12_worksOrder 17 = .ok (.iconst 1, 1) := dX12_worksOrder_17
theorem wdX12_worksOrder_18 : decode cX12_worksOrder 18 = .ok (.isub, 1) := dX12_worksOrder_18
theorem wdX12_worksOrder_19 : decode cX12_worksOrder 19 = .ok (.istore_n 2, 1) := dX12_worksOrder_19
theorem wdX12_worksOrder_20 : decode cX12_worksOrder 20 = .ok (.iload_n 1, 1) := dX12_worksOrder_20
theorem wdX12_worksOrder_21 : decode cX12_worksOrder 21 = .ok (.istore_n 3, 1) := dX12_worksOrder_21
theorem wdX12_worksOrder_22 : decode cX12_worksOrder 22 = .ok (.aload_n 0, 1) := dX12_worksOrder_22
theorem wdX12_worksOrder_23 : decode cX12_worksOrder 23 = .ok (.getfield 239, 3) := dX12_worksOrder_23
theorem wdX12_worksOrder_26 : decode cX12_worksOrder 26 = .ok (.istore 4, 2) := dX12_worksOrder_26
theorem wdX12_worksOrder_105 : decode cX12_worksOrder 105 = .ok (.return_, 1) := dX12_worksOrder_105
set_option maxRecDepth 4000 in
theorem k_worksOrder {l : Launch} {D : va_G} {B : Nat} {cy : Nat → ClassId} {M : Mem} {Ps : Nat → Nat → Int} {mr k q hv ed : Nat} {o : Wo} {Hs : Nat → Fw} (hS : MS M Ps mr (q, hv, ed, o) Hs k) (hm6 : mr ≤ 6) {c9 : Nat} (hc9 : c9 < 720) : Cv l D B cy yX12_worksOrder cX12_worksOrder 8 8 189 [.ref (B + 146), .int (zI (c9 : Int))] M (fun M1 => (∃ z, RW M1 q hv ed (odR Ps mr (q, hv, ed, o) c9) z) ∧ FrQ9 M1 M) := by
  refine s_any (by decide) (Nat.le_of_ble_eq_true rfl) ?_
  intro p e s m below meth c ls F hr hlocks w hl
  have F : CallFix p m c cX12_worksOrder 8 s _ TB RX12 := F
  have hx := F.1
  have hb := F.2.1
  have hl : lv_has ls 8 [(0, .ref (B + 146)), (1, .int (zI (c9 : Int)))] := hl
  have hm8 := hS.1.1
  have hk12 := hS.2.2.2.2.1
  have hC : TW M q hv ed o := hS.T
  have hW : isR M 147 o.1 q hv ed o.2.1 o.2.2 := hC.1
  have hwf := hC.wf
  have hKL := hwf.2.2.2.2
  have hn12 := hwf.1
  have hq12 := hwf.2.1
  have hhv := hwf.2.2.1
  have hed := hwf.2.2.2.1
  have hp2 := p2_b (n := mr) (by omega)
  have hp6 := (nb_f mr (by omega)).2
  refine lv_aload_n hx hb wdX12_worksOrder_0 rfl (lv_at hl 0 rfl) ?_
  refine f_12_2 F w (a := 146) rfl wtb_102 wdX12_worksOrder_1 ?_
  refine lv_aload_n hx hb wdX12_worksOrder_4 rfl (lv_at hl 0 rfl) ?_
  refine f_12_1 F w (a := 146) rfl wtb_179 wdX12_worksOrder_5 ?_
  refine k_Sv F w (As := [.ref (B + 148), .ref (B + 147)]) (rest := []) (s_X12_copy (a := 148) (b := 147) rfl rfl (by decide) hC.1 hwf) wgs_X12_162 whs_X12_copy ⟨(Nat.le_of_ble_eq_true rfl), (Nat.le_of_ble_eq_true rfl)⟩ hl.1 rfl (Nat.le_of_ble_eq_true rfl) ⟨Nat.zero_le _, Nat.zero_le _⟩ wdX12_worksOrder_8 (fun Ma1 H locs hp w => ?_)
  rcases hp with ⟨hW2, hF2⟩
  obtain ⟨z9, hR0⟩ := RW.of hW2 hC
  have hS2 := hS.fw (FrQ9.of1 hF2)
  refine lv_iconst (v := zI 1) hx hb wdX12_worksOrder_11 rfl ?_
  refine lv_aload_n hx hb wdX12_worksOrder_12 rfl (lv_at hl 0 rfl) ?_
  refine f_12_5 F w (a := 146) rfl wtb_291 wdX12_worksOrder_13 ?_
  refine r_val (v := (zI (mr : Int))) (hS2.2.1) ?_
  refine lv_ishl hx hb wdX12_worksOrder_16 ?_
  refine r_val (v := (zI (((2 ^ mr) : Nat) : Int))) (zb_shl (n := mr) (by omega)) ?_
  have q2 := p2_b (n := mr) (by omega)
  refine lv_iconst (v := zI 1) hx hb wdX12_worksOrder_17 rfl ?_
  refine z_isub (z := ((((2 ^ mr) - 1) : Nat) : Int)) hx hb wdX12_worksOrder_18 (by omega) ?_
  refine lv_istore_n (lv' := [(2, .int (zI ((((2 ^ mr) - 1) : Nat) : Int))), (0, .ref (B + 146)), (1, .int (zI (c9 : Int)))]) hx hb wdX12_worksOrder_19 rfl hl (by decide) rfl (fun ls hl => ?_)
  refine lv_iload_n hx hb wdX12_worksOrder_20 rfl (lv_at hl 2 rfl) ?_
  refine lv_istore_n (lv' := [(3, .int (zI (c9 : Int))), (2, .int (zI ((((2 ^ mr) - 1) : Nat) : Int))), (0, .ref (B + 146)), (1, .int (zI (c9 : Int)))]) hx hb wdX12_worksOrder_21 rfl hl (by decide) rfl (fun ls hl => ?_)
  refine lv_aload_n hx hb wdX12_worksOrder_22 rfl (lv_at hl 2 rfl) ?_
  refine f_12_5 F w (a := 146) rfl wtb_291 wdX12_worksOrder_23 ?_
  refine r_val (v := (zI (mr : Int))) (hS2.2.1) ?_
  refine lv_istore (lv' := [(4, .int (zI (mr : Int))), (3, .int (zI (c9 : Int))), (2, .int (zI ((((2 ^ mr) - 1) : Nat) : Int))), (0, .ref (B + 146)), (1, .int (zI (c9 : Int)))]) hx hb wdX12_worksOrder_26 hl (by decide) rfl (fun ls hl => ?_)
  refine lp_X12_worksOrder1  F (Nat.le_of_ble_eq_true rfl) (Nat.le_of_ble_eq_true rfl) hm6 (fun sz left code cur z Nm H locs ls x0 x1 w hl => ?_) mr mr ((2 ^ mr) - 1) c9 o z9 Ma1 (nb_f mr (by omega)).2 (nb_f mr (by omega)).1 (fun j hj => tb_full hj) hR0 hS2 rfl (by omega) (FrQ9.of1 hF2) (by omega) _ _ ls w (lv_sub hl [0, 1, 2, 3] rfl)
  exact e_v F w hr hlocks ⟨⟨_, x0⟩, x1⟩ wdX12_worksOrder_105
theorem wdX12_collects_10 : decode cX12_collects 10 = .ok (.iload_n 2, 1) := dX12_collects_10
theorem wdX12_collects_11 : decode cX12_collects 11 = .ok (.bipush 12, 2) := dX12_collects_11
theorem wdX12_collects_13 : decode cX12_collects 13 = .ok (.if_icmp .ge 37, 3) := dX12_collects_13
theorem wdX12_collects_16 : decode cX12_collects 16 = .ok (.aload_n 0, 1) := dX12_collects_16
theorem wdX12_collects_17 : decode cX12_collects 17 = .ok (.getfield 48, 3) := dX12_collects_17
theorem wtb_496 : Cond.fieldLink "ToneLinesModel" 48 "ToneLinesModel" "readings" "[I" ∈ TB := tb_696
theorem wdX12_collects_20 : decode cX12_collects 20 = .ok (.iload_n 1, 1) := dX12_collects_20
theorem wdX12_collects_21 : decode cX12_collects 21 = .ok (.iload_n 2, 1) := dX12_collects_21
theorem wdX12_collects_22 : decode cX12_collects 22 = .ok (.iadd, 1) := dX12_collects_22
theorem wdX12_collects_23 : decode cX12_collects 23 = .ok (.iload_n 2, 1) := dX12_collects_23
theorem wdX12_collects_24 : decode cX12_collects 24 = .ok (.aload_n 0, 1) := dX12_collects_24
theorem wdX12_collects_25 : decode cX12_collects 25 = .ok (.getfield 17, 3) := dX12_collects_25
theorem wdX12_collects_28 : decode cX12_collects 28 = .ok (.bipush 25, 2) := dX12_collects_28
theorem wdX12_collects_30 : decode cX12_collects 30 = .ok (.iaload, 1) := dX12_collects_30
theorem wdX12_collects_31 : decode cX12_collects 31 = .ok (.if_icmp .ge 11, 3) := dX12_collects_31
theorem wdX12_collects_42 : decode cX12_collects 42 = .ok (.iconst 0, 1) := dX12_collects_42
theorem wdX12_collects_43 : decode cX12_collects 43 = .ok (.iastore, 1) := dX12_collects_43
theorem wdX12_collects_44 : decode cX12_collects 44 = .ok (.iinc 2 1, 3) := dX12_collects_44
theorem wdX12_collects_47 : decode cX12_collects 47 = .ok (.goto (-37), 3) := dX12_collects_47
theorem wdX12_collects_34 : decode cX12_collects 34 = .ok (.aload_n 0, 1) := dX12_collects_34
theorem wdX12_collects_35 : decode cX12_collects 35 = .ok (.iload_n 2, 1) := dX12_collects_35
theorem wdX12_collects_36 : decode cX12_collects 36 = .ok (.invokevirtual 288, 3) := dX12_collects_36
theorem wdX12_collects_39 : decode cX12_collects 39 = .ok (.goto 4, 3) := dX12_collects_39
set_option maxRecDepth 4000 in
theorem lp_X12_collects1 {p : Program} {l : Launch} {e : Env} {s : State} {m : MethodId} {args : Array Value} {below : List Frame} {meth : Method} {c : Code} {D : va_G} {B : Nat} {cy : Nat → ClassId} {H0 : Heap} {Q : State → Prop} {M : Mem} {R : Room} {q hv ed t : Nat} {w9 : Nat → Wo} {z9 : Int} (F : CallFix p m c cX12_collects 5 s args TB RX12) (hR1 : 2 ≤ R.frames) (hR2 : 45 ≤ R.locals) (hR : RW M q hv ed (w9 t) z9) (hY : isY M q w9 (rpF q w9 t)) (ht : t < 720) (kk : ∀ (sy : Nat) (Nm : Mem) (H : Heap) (locs : List Loc) (ls : Array Slot), (∀ s9, s9 < 12 → Nm.1 158 (12 * (rpF q w9 t).length + s9) = zI ((duV q (w9 t) s9 : Nat) : Int)) → (∀ j, j < (rpF q w9 t).length → ∀ s9, s9 < 12 → Nm.1 158 (12 * j + s9) = zI ((duV q (w9 ((rpF q w9 t).getD j 0)) s9 : Nat) : Int)) → (Fr1 Nm M 158) → Wd D B cy s H0 Nm H locs → lv_has ls 5 [(1, .int (zI (((12 * ((rpF q w9 t).length)) : Nat) : Int))), (0, .ref (B + 146))] → W p l e R s m args below meth c H locs 0 0 Q (F0 m 50 ls [])) : ∀ (f : Nat) (sy : Nat) (Nm : Mem), (sy ≤ 12) → (RW Nm q hv ed (w9 t) z9) → (∀ s9, s9 < sy → Nm.1 158 (12 * (rpF q w9 t).length + s9) = zI ((duV q (w9 t) s9 : Nat) : Int)) → (Fr1 Nm M 158) → ((∀ j, j < (rpF q w9 t).length → ∀ s9, s9 < 12 → Nm.1 158 (12 * j + s9) = zI ((duV q (w9 ((rpF q w9 t).getD j 0)) s9 : Nat) : Int))) → (12 ≤ sy + f) → ∀ (H : Heap) (locs : List Loc) (ls : Array Slot), Wd D B cy s H0 Nm H locs → lv_has ls 5 [(2, .int (zI (sy : Int))), (1, .int (zI (((12 * ((rpF q w9 t).length)) : Nat) : Int))), (0, .ref (B + 146))] → W p l e R s m args below meth c H locs 0 0 Q (F0 m 10 ls []) := by
  have hx := F.1
  have hb := F.2.1
  have hwf := hR.wf
  have hq12 := hwf.2.1
  have hll := (rp_lt (q := q) (w := w9) (t := t)).2
  intro f
  induction f with
  | zero =>
    intro sy Nm i0 i1 i2 i3 i4 hf H locs ls w hl
    refine lv_iload_n hx hb wdX12_collects_10 rfl (lv_at hl 0 rfl) ?_
    refine lv_bipush (v := zI 12) hx hb wdX12_collects_11 (by decide) ?_
    refine z_icmp_ge (tgt := 50) hx hb (by omega) (by omega) wdX12_collects_13 (by decide) (fun c1 => ?_) (fun c1 => False.elim (by omega))
    exact kk sy Nm _ _ ls (fun s9 hs9 => i2 s9 (by omega)) i4 i3 w (lv_sub hl [1, 2] rfl)
  | succ f ih =>
    intro sy Nm i0 i1 i2 i3 i4 hf H locs ls w hl
    refine lv_iload_n hx hb wdX12_collects_10 rfl (lv_at hl 0 rfl) ?_
    refine lv_bipush (v := zI 12) hx hb wdX12_collects_11 (by decide) ?_
    refine z_icmp_ge (tgt := 50) hx hb (by omega) (by omega) wdX12_collects_13 (by decide) (fun c1 => ?_) (fun c1 => ?_)
    · exact kk sy Nm _ _ ls (fun s9 hs9 => i2 s9 (by omega)) i4 i3 w (lv_sub hl [1, 2] rfl)
    · refine lv_aload_n hx hb wdX12_collects_16 rfl (lv_at hl 2 rfl) ?_
      refine f_12_24 F w (a := 146) rfl wtb_496 wdX12_collects_17 ?_
      refine lv_iload_n hx hb wdX12_collects_20 rfl (lv_at hl 1 rfl) ?_
      refine lv_iload_n hx hb wdX12_collects_21 rfl (lv_at hl 0 rfl) ?_
      refine z_iadd (z := ((((12 * ((rpF q w9 t).length)) + sy) : Nat) : Int)) hx hb wdX12_collects_22 (by omega) ?_
      refine lv_iload_n hx hb wdX12_collects_23 rfl (lv_at hl 0 rfl) ?_
      refine lv_aload_n hx hb wdX12_collects_24 rfl (lv_at hl 2 rfl) ?_
      refine f_12_2 F w (a := 146) rfl wtb_102 wdX12_collects_25 ?_
      refine lv_bipush (v := zI 25) hx hb wdX12_collects_28 (by decide) ?_
      refine g_iald F w (a := 148) rfl (j := 25) ⟨by decide, by decide⟩ (by omega) wdX12_collects_30 ?_
      refine r_val (v := (zI (q : Int))) (i1.1.2.1) ?_
      refine z_icmp_ge (tgt := 42) hx hb (by omega) (by omega) wdX12_collects_31 (by decide) (fun c2 => ?_) (fun c2 => ?_)
      · refine lv_iconst (v := zI 0) hx hb wdX12_collects_42 rfl ?_
        refine g_iast F w (a := 158) rfl (j := ((12 * ((rpF q w9 t).length)) + sy)) (ix_n (by omega)) (by omega) wdX12_collects_43 (fun H locs w => ?_)
        refine z_iinc (v := (((sy + 1) : Nat) : Int)) (lv' := [(2, .int (zI (((sy + 1) : Nat) : Int))), (1, .int (zI (((12 * ((rpF q w9 t).length)) : Nat) : Int))), (0, .ref (B + 146))]) hx hb wdX12_collects_44 hl (k := 0) rfl (by omega) (by decide) rfl (fun ls hl => ?_)
        refine lv_goto (tgt := 10) hx hb wdX12_collects_47 (by decide) ?_
        exact ih (sy + 1) (st Nm 158 ((12 * ((rpF q w9 t).length)) + sy) (zI 0)) (by omega) (RW.of158 i1) (fun s9 hs9 => by by_cases h9 : s9 = sy; (subst h9; rw [(duV_n (by omega))]; exact st_at); exact (st_ne (Or.inr (by omega))).trans (i2 s9 (by omega))) (Fr1.t2 i3 Fr1.s) (fun j hj s9 hs9 => (st_ne (Or.inr (by omega))).trans (i4 j hj s9 hs9)) (by omega) _ _ ls w (lv_sub hl [0, 1, 2] rfl)
      · refine lv_aload_n hx hb wdX12_collects_34 rfl (lv_at hl 2 rfl) ?_
        refine lv_iload_n hx hb wdX12_collects_35 rfl (lv_at hl 0 rfl) ?_
        refine x_Vi F w (As := [.int (zI (sy : Int))]) (rest := [.int (zI ((((12 * ((rpF q w9 t).length)) + sy) : Nat) : Int)), .ref (B + 158)]) (a := 146) (kd_lt (a := 146) (show kd 146 = (12, 0, 0) from rfl) (by decide)) (sh_12 rfl _ _) rfl (k_reading i1 (j9 := sy) (by omega)) wgv_X12_288 whv_X12_reading ⟨(by omega), (by omega)⟩ hl.1 rfl (Nat.le_of_ble_eq_true rfl) ⟨Nat.zero_le _, Nat.zero_le _⟩ wdX12_collects_36 (fun H locs w => ?_)
        have hrw := rdW_b (s := sy) i1.2.1
        refine lv_goto (tgt := 43) hx hb wdX12_collects_39 (by decide) ?_
        refine g_iast F w (a := 158) rfl (j := ((12 * ((rpF q w9 t).length)) + sy)) (ix_n (by omega)) (by omega) wdX12_collects_43 (fun H locs w => ?_)
        refine z_iinc (v := (((sy + 1) : Nat) : Int)) (lv' := [(2, .int (zI (((sy + 1) : Nat) : Int))), (1, .int (zI (((12 * ((rpF q w9 t).length)) : Nat) : Int))), (0, .ref (B + 146))]) hx hb wdX12_collects_44 hl (k := 0) rfl (by omega) (by decide) rfl (fun ls hl => ?_)
        refine lv_goto (tgt := 10) hx hb wdX12_collects_47 (by decide) ?_
        exact ih (sy + 1) (st Nm 158 ((12 * ((rpF q w9 t).length)) + sy) (zI (((rdW9 (w9 t) sy) : Nat) : Int))) (by omega) (RW.of158 i1) (fun s9 hs9 => by by_cases h9 : s9 = sy; (subst h9; rw [(duV_y (by omega))]; exact st_at); exact (st_ne (Or.inr (by omega))).trans (i2 s9 (by omega))) (Fr1.t2 i3 Fr1.s) (fun j hj s9 hs9 => (st_ne (Or.inr (by omega))).trans (i4 j hj s9 hs9)) (by omega) _ _ ls w (lv_sub hl [0, 1, 2] rfl)
theorem wdX12_collects_65 : decode cX12_collects 65 = .ok (.iload 4, 2) := dX12_collects_65
theorem wdX12_collects_67 : decode cX12_collects 67 = .ok (.bipush 12, 2) := dX12_collects_67
theorem wdX12_collects_69 : decode cX12_collects 69 = .ok (.if_icmp .ge 43, 3) := dX12_collects_69
theorem wdX12_collects_72 : decode cX12_collects 72 = .ok (.iload_n 3, 1) := dX12_collects_72
theorem wdX12_collects_73 : decode cX12_collects 73 = .ok (.ifCond .eq 39, 3) := dX12_collects_73
theorem wdX12_collects_76 : decode cX12_collects 76 = .ok (.aload_n 0, 1) := dX12_collects_76
theorem wdX12_collects_77 : decode cX12_collects 77 = .ok (.getfield 48, 3) := dX12_collects_77
theorem wdX12_collects_80 : decode cX12_collects 80 = .ok (.bipush 12, 2) := dX12_collects_80
theorem wdX12_collects_82 : decode cX12_collects 82 = .ok (.iload_n 2, 1) := dX12_collects_82
theorem wdX12_collects_83 : decode cX12_collects 83 = .ok (.imul, 1) := dX12_collects_83
theorem wdX12_collects_84 : decode cX12_collects 84 = .ok (.iload 4, 2) := dX12_collects_84
theorem wdX12_collects_86 : decode cX12_collects 86 = .ok (.iadd, 1) := dX12_collects_86
theorem wdX12_collects_87 : decode cX12_collects 87 = .ok (.iaload, 1) := dX12_collects_87
theorem wdX12_collects_88 : decode cX12_collects 88 = .ok (.aload_n 0, 1) := dX12_collects_88
theorem wdX12_collects_89 : decode cX12_collects 89 = .ok (.getfield 48, 3) := dX12_collects_89
theorem wdX12_collects_92 : decode cX12_collects 92 = .ok (.iload_n 1, 1) := dX12_collects_92
theorem wdX12_collects_93 : decode cX12_collects 93 = .ok (.iload 4, 2) := dX12_collects_93
theorem wdX12_collects_95 : decode cX12_collects 95 = .ok (.iadd, 1) := dX12_collects_95
theorem wdX12_collects_96 : decode cX12_collects 96 = .ok (.iaload, 1) := dX12_collects_96
theorem wdX12_collects_97 : decode cX12_collects 97 = .ok (.if_icmp .ne 7, 3) := dX12_collects_97
theorem wdX12_collects_104 : decode cX12_collects 104 = .ok (.iconst 0, 1) := dX12_collects_104
theorem wdX12_collects_105 : decode cX12_collects 105 = .ok (.istore_n 3, 1) := dX12_collects_105
theorem wdX12_collects_106 : decode cX12_collects 106 = .ok (.iinc 4 1, 3) := dX12_collects_106
theorem wdX12_collects_109 : decode cX12_collects 109 = .ok (.goto (-44), 3) := dX12_collects_109
theorem wdX12_collects_100 : decode cX12_collects 100 = .ok (.iconst 1, 1) := dX12_collects_100
theorem wdX12_collects_101 : decode cX12_collects 101 = .ok (.goto 4, 3) := dX12_collects_101
set_option maxRecDepth 4000 in
theorem lp_X12_collects3 {p : Program} {l : Launch} {e : Env} {s : State} {m : MethodId} {args : Array Value} {below : List Frame} {meth : Method} {c : Code} {D : va_G} {B : Nat} {cy : Nat → ClassId} {H0 : Heap} {Q : State → Prop} {M : Mem} {R : Room} {q t k9 : Nat} {w9 : Nat → Wo} (F : CallFix p m c cX12_collects 5 s args TB RX12) (hR1 : 0 ≤ R.frames) (hR2 : 0 ≤ R.locals) (hk9 : k9 < (rpF q w9 t).length) (hln : (rpF q w9 t).length < 720) (hrow : ∀ j, j < (rpF q w9 t).length → ∀ s9, s9 < 12 → M.1 158 (12 * j + s9) = zI ((duV q (w9 ((rpF q w9 t).getD j 0)) s9 : Nat) : Int)) (hnew : ∀ s9, s9 < 12 → M.1 158 (12 * (rpF q w9 t).length + s9) = zI ((duV q (w9 t) s9 : Nat) : Int)) (hkd : okW q (w9 ((rpF q w9 t).getD k9 0))) (hkt : okW q (w9 t)) (kk : ∀ (sy : Nat) (fl : Nat) (H : Heap) (locs : List Loc) (ls : Array Slot), ((fl = 1 ∧ ∀ s9, s9 < 12 → duV q (w9 ((rpF q w9 t).getD k9 0)) s9 = duV q (w9 t) s9) ∨ (fl = 0 ∧ ¬ ∀ s9, s9 < 12 → duV q (w9 ((rpF q w9 t).getD k9 0)) s9 = duV q (w9 t) s9)) → Wd D B cy s H0 M H locs → lv_has ls 5 [(3, .int (zI (fl : Int))), (2, .int (zI (k9 : Int))), (1, .int (zI (((12 * ((rpF q w9 t).length)) : Nat) : Int))), (0, .ref (B + 146))] → W p l e R s m args below meth c H locs 0 0 Q (F0 m 112 ls [])) : ∀ (f : Nat) (sy : Nat) (fl : Nat), (sy ≤ 12) → ((fl = 1 ∧ ∀ s9, s9 < sy → duV q (w9 ((rpF q w9 t).getD k9 0)) s9 = duV q (w9 t) s9) ∨ (fl = 0 ∧ ¬ ∀ s9, s9 < 12 → duV q (w9 ((rpF q w9 t).getD k9 0)) s9 = duV q (w9 t) s9)) → (12 ≤ sy + f) → ∀ (H : Heap) (locs : List Loc) (ls : Array Slot), Wd D B cy s H0 M H locs → lv_has ls 5 [(4, .int (zI (sy : Int))), (3, .int (zI (fl : Int))), (2, .int (zI (k9 : Int))), (1, .int (zI (((12 * ((rpF q w9 t).length)) : Nat) : Int))), (0, .ref (B + 146))] → W p l e R s m args below meth c H locs 0 0 Q (F0 m 65 ls []) := by
  have hx := F.1
  have hb := F.2.1
  intro f
  induction f with
  | zero =>
    intro sy fl i0 i1 hf H locs ls w hl
    rcases i1 with ⟨e9, hq9⟩ | ⟨e9, hq9⟩
    · refine lv_iload hx hb wdX12_collects_65 (lv_at hl 0 rfl) ?_
      refine lv_bipush (v := zI 12) hx hb wdX12_collects_67 (by decide) ?_
      refine z_icmp_ge (tgt := 112) hx hb (by omega) (by omega) wdX12_collects_69 (by decide) (fun c1 => ?_) (fun c1 => False.elim (by omega))
      exact kk sy fl _ _ ls (Or.inl ⟨e9, fun s9 hs9 => hq9 s9 (by omega)⟩) w (lv_sub hl [1, 2, 3, 4] rfl)
    · refine lv_iload hx hb wdX12_collects_65 (lv_at hl 0 rfl) ?_
      refine lv_bipush (v := zI 12) hx hb wdX12_collects_67 (by decide) ?_
      refine z_icmp_ge (tgt := 112) hx hb (by omega) (by omega) wdX12_collects_69 (by decide) (fun c2 => ?_) (fun c2 => False.elim (by omega))
      exact kk sy fl _ _ ls (Or.inr ⟨e9, hq9⟩) w (lv_sub hl [1, 2, 3, 4] rfl)
  | succ f ih =>
    intro sy fl i0 i1 hf H locs ls w hl
    rcases i1 with ⟨e9, hq9⟩ | ⟨e9, hq9⟩
    · refine lv_iload hx hb wdX12_collects_65 (lv_at hl 0 rfl) ?_
      refine lv_bipush (v := zI 12) hx hb wdX12_collects_67 (by decide) ?_
      refine z_icmp_ge (tgt := 112) hx hb (by omega) (by omega) wdX12_collects_69 (by decide) (fun c1 => ?_) (fun c1 => ?_)
      · exact kk sy fl _ _ ls (Or.inl ⟨e9, fun s9 hs9 => hq9 s9 (by omega)⟩) w (lv_sub hl [1, 2, 3, 4] rfl)
      · refine lv_iload_n hx hb wdX12_collects_72 rfl (lv_at hl 1 rfl) ?_
        refine z_if_eq (tgt := 112) hx hb (by omega) wdX12_collects_73 (by decide) (fun c2 => False.elim (by omega)) (fun c2 => ?_)
        refine lv_aload_n hx hb wdX12_collects_76 rfl (lv_at hl 4 rfl) ?_
        refine f_12_24 F w (a := 146) rfl wtb_496 wdX12_collects_77 ?_
        refine lv_bipush (v := zI 12) hx hb wdX12_collects_80 (by decide) ?_
        refine lv_iload_n hx hb wdX12_collects_82 rfl (lv_at hl 2 rfl) ?_
        refine z_imul (z := (((12 * k9) : Nat) : Int)) hx hb wdX12_collects_83 (by omega) ?_
        refine lv_iload hx hb wdX12_collects_84 (lv_at hl 0 rfl) ?_
        refine z_iadd (z := ((((12 * k9) + sy) : Nat) : Int)) hx hb wdX12_collects_86 (by omega) ?_
        refine g_iald F w (a := 158) rfl (j := ((12 * k9) + sy)) (ix_n (by omega)) (by omega) wdX12_collects_87 ?_
        have hdv2 := duV_b (s := sy) (hkd)
        have hdw2 := duV_b (s := sy) hkt
        refine r_val (v := (zI (((duV q (w9 ((rpF q w9 t).getD k9 0)) sy) : Nat) : Int))) ((hrow k9 (by omega) sy (by omega))) ?_
        refine lv_aload_n hx hb wdX12_collects_88 rfl (lv_at hl 4 rfl) ?_
        refine f_12_24 F w (a := 146) rfl wtb_496 wdX12_collects_89 ?_
        refine lv_iload_n hx hb wdX12_collects_92 rfl (lv_at hl 3 rfl) ?_
        refine lv_iload hx hb wdX12_collects_93 (lv_at hl 0 rfl) ?_
        refine z_iadd (z := ((((12 * ((rpF q w9 t).length)) + sy) : Nat) : Int)) hx hb wdX12_collects_95 (by omega) ?_
        refine g_iald F w (a := 158) rfl (j := ((12 * ((rpF q w9 t).length)) + sy)) (ix_n (by omega)) (by omega) wdX12_collects_96 ?_
        have hdv3 := duV_b (s := sy) (hkd)
        have hdw3 := duV_b (s := sy) hkt
        refine r_val (v := (zI (((duV q (w9 t) sy) : Nat) : Int))) ((hnew sy (by omega))) ?_
        refine z_icmp_ne (tgt := 104) hx hb (by omega) (by omega) wdX12_collects_97 (by decide) (fun c5 => ?_) (fun c5 => ?_)
        · refine lv_iconst (v := zI 0) hx hb wdX12_collects_104 rfl ?_
          refine lv_istore_n (lv' := [(3, .int (zI 0)), (4, .int (zI (sy : Int))), (2, .int (zI (k9 : Int))), (1, .int (zI (((12 * ((rpF q w9 t).length)) : Nat) : Int))), (0, .ref (B + 146))]) hx hb wdX12_collects_105 rfl hl (by decide) rfl (fun ls hl => ?_)
          refine z_iinc (v := (((sy + 1) : Nat) : Int)) (lv' := [(4, .int (zI (((sy + 1) : Nat) : Int))), (3, .int (zI 0)), (2, .int (zI (k9 : Int))), (1, .int (zI (((12 * ((rpF q w9 t).length)) : Nat) : Int))), (0, .ref (B + 146))]) hx hb wdX12_collects_106 hl (k := 1) rfl (by omega) (by decide) rfl (fun ls hl => ?_)
          refine lv_goto (tgt := 65) hx hb wdX12_collects_109 (by decide) ?_
          exact ih (sy + 1) 0 (by omega) (Or.inr ⟨rfl, fun h9 => by have := h9 sy (by omega); omega⟩) (by omega) _ _ ls w (lv_sub hl [0, 1, 2, 3, 4] rfl)
        · refine lv_iconst (v := zI 1) hx hb wdX12_collects_100 rfl ?_
          refine lv_goto (tgt := 105) hx hb wdX12_collects_101 (by decide) ?_
          refine lv_istore_n (lv' := [(3, .int (zI 1)), (4, .int (zI (sy : Int))), (2, .int (zI (k9 : Int))), (1, .int (zI (((12 * ((rpF q w9 t).length)) : Nat) : Int))), (0, .ref (B + 146))]) hx hb wdX12_collects_105 rfl hl (by decide) rfl (fun ls hl => ?_)
          refine z_iinc (v := (((sy + 1) : Nat) : Int)) (lv' := [(4, .int (zI (((sy + 1) : Nat) : Int))), (3, .int (zI 1)), (2, .int (zI (k9 : Int))), (1, .int (zI (((12 * ((rpF q w9 t).length)) : Nat) : Int))), (0, .ref (B + 146))]) hx hb wdX12_collects_106 hl (k := 1) rfl (by omega) (by decide) rfl (fun ls hl => ?_)
          refine lv_goto (tgt := 65) hx hb wdX12_collects_109 (by decide) ?_
          exact ih (sy + 1) 1 (by omega) (Or.inl ⟨rfl, fun s9 hs9 => by by_cases h9 : s9 = sy; (rw [h9]; omega); exact hq9 s9 (by omega)⟩) (by omega) _ _ ls w (lv_sub hl [0, 1, 2, 3, 4] rfl)
    · refine lv_iload hx hb wdX12_collects_65 (lv_at hl 0 rfl) ?_
      refine lv_bipush (v := zI 12) hx hb wdX12_collects_67 (by decide) ?_
      refine z_icmp_ge (tgt := 112) hx hb (by omega) (by omega) wdX12_collects_69 (by decide) (fun c6 => ?_) (fun c6 => ?_)
      · exact kk sy fl _ _ ls (Or.inr ⟨e9, hq9⟩) w (lv_sub hl [1, 2, 3, 4] rfl)
      · refine lv_iload_n hx hb wdX12_collects_72 rfl (lv_at hl 1 rfl) ?_
        refine z_if_eq (tgt := 112) hx hb (by omega) wdX12_collects_73 (by decide) (fun c7 => ?_) (fun c7 => False.elim (by omega))
        exact kk sy fl _ _ ls (Or.inr ⟨e9, hq9⟩) w (lv_sub hl [1, 2, 3, 4] rfl)
theorem wdX12_collects_52 : decode cX12_collects 52 = .ok (.iload_n 2, 1) := dX12_collects_52
theorem wdX12_collects_53 : decode cX12_collects 53 = .ok (.aload_n 0, 1) := dX12_collects_53
theorem wdX12_collects_54 : decode cX12_collects 54 = .ok (.getfield 309, 3) := dX12_collects_54
theorem wtb_497 : Cond.fieldLink "ToneLinesModel" 309 "ToneLinesModel" "readingMany" "I" ∈ TB := tb_695
theorem wdX12_collects_57 : decode cX12_collects 57 = .ok (.if_icmp .ge 66, 3) := dX12_collects_57
theorem wdX12_collects_60 : decode cX12_collects 60 = .ok (.iconst 1, 1) := dX12_collects_60
theorem wdX12_collects_61 : decode cX12_collects 61 = .ok (.istore_n 3, 1) := dX12_collects_61
theorem wdX12_collects_62 : decode cX12_collects 62 = .ok (.iconst 0, 1) := dX12_collects_62
theorem wdX12_collects_63 : decode cX12_collects 63 = .ok (.istore 4, 2) := dX12_collects_63
theorem wdX12_collects_112 : decode cX12_collects 112 = .ok (.iload_n 3, 1) := dX12_collects_112
theorem wdX12_collects_113 : decode cX12_collects 113 = .ok (.ifCond .eq 4, 3) := dX12_collects_113
theorem wdX12_collects_117 : decode cX12_collects 117 = .ok (.iinc 2 1, 3) := dX12_collects_117
theorem wdX12_collects_120 : decode cX12_collects 120 = .ok (.goto (-68), 3) := dX12_collects_120
theorem wdX12_collects_116 : decode cX12_collects 116 = .ok (.return_, 1) := dX12_collects_116
set_option maxRecDepth 4000 in
theorem lp_X12_collects2 {p : Program} {l : Launch} {e : Env} {s : State} {m : MethodId} {args : Array Value} {below : List Frame} {meth : Method} {c : Code} {D : va_G} {B : Nat} {cy : Nat → ClassId}  {M : Mem} {R : Room} {q t : Nat} {w9 : Nat → Wo} {Nm9 : Mem} (F : CallFix p m c cX12_collects 5 s args TB RX12) (hr : meth.sig.returnType = none) (hlocks : meth.locks = false) (hR1 : 0 ≤ R.frames) (hR2 : 0 ≤ R.locals) (hq12 : q ≤ 12) (hln : (rpF q w9 t).length < 720) (hYl : Nm9.1 146 25 = zI (((rpF q w9 t).length : Nat) : Int)) (hrow : ∀ j, j < (rpF q w9 t).length → ∀ s9, s9 < 12 → Nm9.1 158 (12 * j + s9) = zI ((duV q (w9 ((rpF q w9 t).getD j 0)) s9 : Nat) : Int)) (hnew : ∀ s9, s9 < 12 → Nm9.1 158 (12 * (rpF q w9 t).length + s9) = zI ((duV q (w9 t) s9 : Nat) : Int)) (hkw : ∀ i, i ≤ t → okW q (w9 i)) (hFv : FrV Nm9 M) (kk : ∀ (k9 : Nat) (H : Heap) (locs : List Loc) (ls : Array Slot), (∀ j, j < (rpF q w9 t).length → ¬ rdE q (w9 ((rpF q w9 t).getD j 0)) (w9 t)) → Wd D B cy s s.heap Nm9 H locs → lv_has ls 5 [(0, .ref (B + 146))] → W p l e R s m args below meth c H locs 0 0 (MQ below (va_Qv (fun M1 => isY M1 q w9 (rpF q w9 (t + 1)) ∧ FrV M1 M) (fun M2 t2 => Wp D B cy M2 t2) (fun q2 => B ≤ q2)) args s 0 0 (fun q2 => B ≤ q2)) (F0 m 123 ls [])) : ∀ (f : Nat) (k9 : Nat), (k9 ≤ (rpF q w9 t).length) → (∀ j, j < k9 → ¬ rdE q (w9 ((rpF q w9 t).getD j 0)) (w9 t)) → ((rpF q w9 t).length ≤ k9 + f) → ∀ (H : Heap) (locs : List Loc) (ls : Array Slot), Wd D B cy s s.heap Nm9 H locs → lv_has ls 5 [(2, .int (zI (k9 : Int))), (1, .int (zI (((12 * ((rpF q w9 t).length)) : Nat) : Int))), (0, .ref (B + 146))] → W p l e R s m args below meth c H locs 0 0 (MQ below (va_Qv (fun M1 => isY M1 q w9 (rpF q w9 (t + 1)) ∧ FrV M1 M) (fun M2 t2 => Wp D B cy M2 t2) (fun q2 => B ≤ q2)) args s 0 0 (fun q2 => B ≤ q2)) (F0 m 52 ls []) := by
  have hx := F.1
  have hb := F.2.1
  intro f
  induction f with
  | zero =>
    intro k9 i0 i1 hf H locs ls w hl
    refine lv_iload_n hx hb wdX12_collects_52 rfl (lv_at hl 0 rfl) ?_
    refine lv_aload_n hx hb wdX12_collects_53 rfl (lv_at hl 2 rfl) ?_
    refine f_12_25 F w (a := 146) rfl wtb_497 wdX12_collects_54 ?_
    refine r_val (v := (zI ((((rpF q w9 t).length) : Nat) : Int))) (hYl) ?_
    refine z_icmp_ge (tgt := 123) hx hb (by omega) (by omega) wdX12_collects_57 (by decide) (fun c1 => ?_) (fun c1 => False.elim (by omega))
    exact kk k9 _ _ ls (fun j hj => i1 j (by omega)) w (lv_sub hl [2] rfl)
  | succ f ih =>
    intro k9 i0 i1 hf H locs ls w hl
    refine lv_iload_n hx hb wdX12_collects_52 rfl (lv_at hl 0 rfl) ?_
    refine lv_aload_n hx hb wdX12_collects_53 rfl (lv_at hl 2 rfl) ?_
    refine f_12_25 F w (a := 146) rfl wtb_497 wdX12_collects_54 ?_
    refine r_val (v := (zI ((((rpF q w9 t).length) : Nat) : Int))) (hYl) ?_
    refine z_icmp_ge (tgt := 123) hx hb (by omega) (by omega) wdX12_collects_57 (by decide) (fun c1 => ?_) (fun c1 => ?_)
    · exact kk k9 _ _ ls (fun j hj => i1 j (by omega)) w (lv_sub hl [2] rfl)
    · have hkd := (hkw _ (Nat.le_of_lt ((rp_lt (q := q) (w := w9) (t := t)).1 _ (gd_m (l := rpF q w9 t) (j := k9) (by omega)))))
      have hkt := hkw t (Nat.le_refl t)
      refine lv_iconst (v := zI 1) hx hb wdX12_collects_60 rfl ?_
      refine lv_istore_n (lv' := [(3, .int (zI 1)), (2, .int (zI (k9 : Int))), (1, .int (zI (((12 * ((rpF q w9 t).length)) : Nat) : Int))), (0, .ref (B + 146))]) hx hb wdX12_collects_61 rfl hl (by decide) rfl (fun ls hl => ?_)
      refine lv_iconst (v := zI 0) hx hb wdX12_collects_62 rfl ?_
      refine lv_istore (lv' := [(4, .int (zI 0)), (3, .int (zI 1)), (2, .int (zI (k9 : Int))), (1, .int (zI (((12 * ((rpF q w9 t).length)) : Nat) : Int))), (0, .ref (B + 146))]) hx hb wdX12_collects_63 hl (by decide) rfl (fun ls hl => ?_)
      refine lp_X12_collects3  F (by omega) (by omega) (by omega) hln hrow hnew hkd hkt (fun sy fl H locs ls x0 w hl => ?_) 12 0 1 (Nat.zero_le _) (Or.inl ⟨rfl, fun s9 hs9 => absurd hs9 (Nat.not_lt_zero s9)⟩) (by omega) _ _ ls w (lv_sub hl [0, 1, 2, 3, 4] rfl)
      refine lv_iload_n hx hb wdX12_collects_112 rfl (lv_at hl 0 rfl) ?_
      refine z_if_eq (tgt := 117) hx hb (by omega) wdX12_collects_113 (by decide) (fun c2 => ?_) (fun c2 => ?_)
      · refine z_iinc (v := (((k9 + 1) : Nat) : Int)) (lv' := [(2, .int (zI (((k9 + 1) : Nat) : Int))), (3, .int (zI (fl : Int))), (1, .int (zI (((12 * ((rpF q w9 t).length)) : Nat) : Int))), (0, .ref (B + 146))]) hx hb wdX12_collects_117 hl (k := 1) rfl (by omega) (by decide) rfl (fun ls hl => ?_)
        refine lv_goto (tgt := 52) hx hb wdX12_collects_120 (by decide) ?_
        have hnr : ¬ rdE q (w9 ((rpF q w9 t).getD k9 0)) (w9 t) := fun h9 => by rcases x0 with ⟨e9, _⟩ | ⟨_, h8⟩; omega; exact h8 ((duV_iff hq12).mpr h9)
        exact ih (k9 + 1) (by omega) (fun j hj => by by_cases h9 : j = k9; (rw [h9]; exact hnr); exact i1 j (by omega)) (by omega) _ _ ls w (lv_sub hl [0, 2, 3] rfl)
      · have hrd : rdE q (w9 ((rpF q w9 t).getD k9 0)) (w9 t) := by rcases x0 with ⟨_, h8⟩ | ⟨e9, _⟩; exact (duV_iff hq12).mp h8; omega
        exact e_v F w hr hlocks ⟨by rw [rp_y ⟨_, gd_m (by omega), hrd⟩]; exact ⟨hYl, hrow⟩, hFv⟩ wdX12_collects_116
theorem wdX12_collects_0 : decode cX12_collects 0 = .ok (.bipush 12, 2) := dX12_collects_0
theorem wdX12_collects_2 : decode cX12_collects 2 = .ok (.aload_n 0, 1) := dX12_collects_2
theorem wdX12_collects_3 : decode cX12_collects 3 = .ok (.getfield 309, 3) := dX12_collects_3
theorem wdX12_collects_6 : decode cX12_collects 6 = .ok (.imul, 1) := dX12_collects_6
theorem wdX12_collects_7 : decode cX12_collects 7 = .ok (.istore_n 1, 1) := dX12_collects_7
theorem wdX12_collects_8 : decode cX12_collects 8 = .ok (.iconst 0, 1) := dX12_collects_8
theorem wdX12_collects_9 : decode cX12_collects 9 = .ok (.istore_n 2, 1) := dX12_collects_9
theorem wdX12_collects_50 : decode cX12_collects 50 = .ok (.iconst 0, 1) := dX12_collects_50
theorem wdX12_collects_51 : decode cX12_collects 51 = .ok (.istore_n 2, 1) := dX12_collects_51
theorem wdX12_collects_123 : decode cX12_collects 123 = .ok (.aload_n 0, 1) := dX12_collects_123
theorem wdX12_collects_124 : decode cX12_collects 124 = .ok (.dup, 1) := dX12_collects_124
theorem wdX12_collects_125 : decode cX12_collects 125 = .ok (.getfield 309, 3) := dX12_collects_125
theorem wdX12_collects_128 : decode cX12_collects 128 = .ok (.iconst 1, 1) := dX12_collects_128
theorem wdX12_collects_129 : decode cX12_collects 129 = .ok (.iadd, 1) := dX12_collects_129
theorem wdX12_collects_130 : decode cX12_collects 130 = .ok (.putfield 309, 3) := dX12_collects_130
theorem wdX12_collects_133 : decode cX12_collects 133 = .ok (.return_, 1) := dX12_collects_133
set_option maxRecDepth 4000 in
theorem k_collects {l : Launch} {D : va_G} {B : Nat} {cy : Nat → ClassId} {M : Mem} {q hv ed t : Nat} {w9 : Nat → Wo} {z9 : Int} (hR : RW M q hv ed (w9 t) z9) (hY : isY M q w9 (rpF q w9 t)) (ht : t < 720) (hkw : ∀ i, i ≤ t → okW q (w9 i)) : Cv l D B cy yX12_collects cX12_collects 5 2 45 [.ref (B + 146)] M (fun M1 => isY M1 q w9 (rpF q w9 (t + 1)) ∧ FrV M1 M) := by
  refine s_any (by decide) (Nat.le_of_ble_eq_true rfl) ?_
  intro p e s m below meth c ls F hr hlocks w hl
  have F : CallFix p m c cX12_collects 5 s _ TB RX12 := F
  have hx := F.1
  have hb := F.2.1
  have hl : lv_has ls 5 [(0, .ref (B + 146))] := hl
  have hwf := hR.wf
  have hq12 := hwf.2.1
  have hll := (rp_lt (q := q) (w := w9) (t := t)).2
  refine lv_bipush (v := zI 12) hx hb wdX12_collects_0 (by decide) ?_
  refine lv_aload_n hx hb wdX12_collects_2 rfl (lv_at hl 0 rfl) ?_
  refine f_12_25 F w (a := 146) rfl wtb_497 wdX12_collects_3 ?_
  refine r_val (v := (zI ((((rpF q w9 t).length) : Nat) : Int))) (hY.1) ?_
  refine z_imul (z := (((12 * ((rpF q w9 t).length)) : Nat) : Int)) hx hb wdX12_collects_6 (by omega) ?_
  refine lv_istore_n (lv' := [(1, .int (zI (((12 * ((rpF q w9 t).length)) : Nat) : Int))), (0, .ref (B + 146))]) hx hb wdX12_collects_7 rfl hl (by decide) rfl (fun ls hl => ?_)
  refine lv_iconst (v := zI 0) hx hb wdX12_collects_8 rfl ?_
  refine lv_istore_n (lv' := [(2, .int (zI 0)), (1, .int (zI (((12 * ((rpF q w9 t).length)) : Nat) : Int))), (0, .ref (B + 146))]) hx hb wdX12_collects_9 rfl hl (by decide) rfl (fun ls hl => ?_)
  refine lp_X12_collects1  F (Nat.le_of_ble_eq_true rfl) (Nat.le_of_ble_eq_true rfl) hR hY ht (fun sy Nm H locs ls x0 x1 x2 w hl => ?_) 12 0 M (Nat.zero_le _) hR (fun s9 hs9 => absurd hs9 (Nat.not_lt_zero s9)) ⟨fun _ _ => rfl, rfl⟩ hY.2 (by omega) _ _ ls w (lv_sub hl [0, 1, 2] rfl)
  have hx0 := x0
  have hx1 := x1
  have hx2 := x2
  have hYl := (congrFun (x2.1 146 (by decide)) 25).trans hY.1
  have hFv : FrV Nm M := ⟨fun b h1 h2 => x2.1 b h2, fun k hk => congrFun (x2.1 146 (by decide)) k⟩
  refine lv_iconst (v := zI 0) hx hb wdX12_collects_50 rfl ?_
  refine lv_istore_n (lv' := [(2, .int (zI 0)), (1, .int (zI (((12 * ((rpF q w9 t).length)) : Nat) : Int))), (0, .ref (B + 146))]) hx hb wdX12_collects_51 rfl hl (by decide) rfl (fun ls hl => ?_)
  refine lp_X12_collects2  F hr hlocks (Nat.le_of_ble_eq_true rfl) (Nat.le_of_ble_eq_true rfl) hq12 (by omega) hYl hx1 hx0 hkw hFv (fun k9 H locs ls x0 w hl => ?_) ((rpF q w9 t).length) 0 (Nat.zero_le _) (fun j hj => absurd hj (Nat.not_lt_zero j)) (by omega) _ _ ls w (lv_sub hl [0, 1, 2] rfl)
  refine lv_aload_n hx hb wdX12_collects_123 rfl (lv_at hl 0 rfl) ?_
  refine lv_dup hx hb wdX12_collects_124 rfl ?_
  refine f_12_25 F w (a := 146) rfl wtb_497 wdX12_collects_125 ?_
  refine r_val (v := (zI ((((rpF q w9 t).length) : Nat) : Int))) (hYl) ?_
  refine lv_iconst (v := zI 1) hx hb wdX12_collects_128 rfl ?_
  refine z_iadd (z := (((((rpF q w9 t).length) + 1) : Nat) : Int)) hx hb wdX12_collects_129 (by omega) ?_
  refine u_12_25 F w (a := 146) rfl wtb_497 wdX12_collects_130 (fun H locs w => ?_)
  exact e_v F w hr hlocks ⟨by rw [rp_n9 x0]; exact isY.add hx1 hx0, ⟨fun b h1 h2 => (st_ob h1).trans (hx2.1 b h2), fun k hk => (st_ne (Or.inr hk)).trans (congrFun (hx2.1 146 (by decide)) k)⟩⟩ wdX12_collects_133
theorem wdX12_orders_31 : decode cX12_orders 31 = .ok (.iload_n 3, 1) := dX12_orders_31
theorem wdX12_orders_32 : decode cX12_orders 32 = .ok (.aload_n 0, 1) := dX12_orders_32
theorem wdX12_orders_33 : decode cX12_orders 33 = .ok (.getfield 239, 3) := dX12_orders_33
theorem wdX12_orders_36 : decode cX12_orders 36 = .ok (.if_icmp .gt 13, 3) := dX12_orders_36
theorem wdX12_orders_39 : decode cX12_orders 39 = .ok (.iload_n 2, 1) := dX12_orders_39
theorem wdX12_orders_40 : decode cX12_orders 40 = .ok (.iload_n 3, 1) := dX12_orders_40
theorem wdX12_orders_41 : decode cX12_orders 41 = .ok (.imul, 1) := dX12_orders_41
theorem wdX12_orders_42 : decode cX12_orders 42 = .ok (.istore_n 2, 1) := dX12_orders_42
theorem wdX12_orders_43 : decode cX12_orders 43 = .ok (.iinc 3 1, 3) := dX12_orders_43
theorem wdX12_orders_46 : decode cX12_orders 46 = .ok (.goto (-15), 3) := dX12_orders_46
set_option maxRecDepth 4000 in
theorem lp_X12_orders1 {p : Program} {l : Launch} {e : Env} {s : State} {m : MethodId} {args : Array Value} {below : List Frame} {meth : Method} {c : Code} {D : va_G} {B : Nat} {cy : Nat → ClassId} {H0 : Heap} {Q : State → Prop} {M : Mem} {R : Room} {Ps : Nat → Nat → Int} {mr k q hv ed : Nat} {o : Wo} {Hs : Nat → Fw} {w9 : Int} (F : CallFix p m c cX12_orders 5 s args TB RX12) (hR1 : 0 ≤ R.frames) (hR2 : 0 ≤ R.locals) (hm6 : mr ≤ 6) (hS : MS M Ps mr (q, hv, ed, o) Hs k) (kk : ∀ (j : Nat) (H : Heap) (locs : List Loc) (ls : Array Slot), (ftl (j - 1) = ftl mr) → Wd D B cy s H0 M H locs → lv_has ls 5 [(2, .int (zI (((ftl (j - 1)) : Nat) : Int))), (0, .ref (B + 146)), (1, .int (zI w9))] → W p l e R s m args below meth c H locs 0 0 Q (F0 m 49 ls [])) : ∀ (f : Nat) (j : Nat), (2 ≤ j) → (j ≤ mr + 1 ∨ j = 2) → (mr + 1 ≤ j + f) → ∀ (H : Heap) (locs : List Loc) (ls : Array Slot), Wd D B cy s H0 M H locs → lv_has ls 5 [(3, .int (zI (j : Int))), (2, .int (zI (((ftl (j - 1)) : Nat) : Int))), (0, .ref (B + 146)), (1, .int (zI w9))] → W p l e R s m args below meth c H locs 0 0 Q (F0 m 31 ls []) := by
  have hx := F.1
  have hb := F.2.1
  intro f
  induction f with
  | zero =>
    intro j i0 i1 hf H locs ls w hl
    have hfj := fct_b (n := j - 1)
    refine lv_iload_n hx hb wdX12_orders_31 rfl (lv_at hl 0 rfl) ?_
    refine lv_aload_n hx hb wdX12_orders_32 rfl (lv_at hl 2 rfl) ?_
    refine f_12_5 F w (a := 146) rfl wtb_291 wdX12_orders_33 ?_
    refine r_val (v := (zI (mr : Int))) (hS.2.1) ?_
    refine z_icmp_gt (tgt := 49) hx hb (by omega) (by omega) wdX12_orders_36 (by decide) (fun c1 => ?_) (fun c1 => False.elim (by omega))
    exact kk j _ _ ls (by by_cases h9 : j = mr + 1; (rw [h9]; rfl); have h8 : j = 2 := (by omega); subst h8; have h7 : mr = 0 ∨ mr = 1 := (by omega); rcases h7 with h7 | h7 <;> (rw [h7] <;> rfl)) w (lv_sub hl [1, 2, 3] rfl)
  | succ f ih =>
    intro j i0 i1 hf H locs ls w hl
    have hfj := fct_b (n := j - 1)
    refine lv_iload_n hx hb wdX12_orders_31 rfl (lv_at hl 0 rfl) ?_
    refine lv_aload_n hx hb wdX12_orders_32 rfl (lv_at hl 2 rfl) ?_
    refine f_12_5 F w (a := 146) rfl wtb_291 wdX12_orders_33 ?_
    refine r_val (v := (zI (mr : Int))) (hS.2.1) ?_
    refine z_icmp_gt (tgt := 49) hx hb (by omega) (by omega) wdX12_orders_36 (by decide) (fun c1 => ?_) (fun c1 => ?_)
    · exact kk j _ _ ls (by by_cases h9 : j = mr + 1; (rw [h9]; rfl); have h8 : j = 2 := (by omega); subst h8; have h7 : mr = 0 ∨ mr = 1 := (by omega); rcases h7 with h7 | h7 <;> (rw [h7] <;> rfl)) w (lv_sub hl [1, 2, 3] rfl)
    · refine lv_iload_n hx hb wdX12_orders_39 rfl (lv_at hl 1 rfl) ?_
      refine lv_iload_n hx hb wdX12_orders_40 rfl (lv_at hl 0 rfl) ?_
      refine z_imul (z := ((ftl j : Nat) : Int)) hx hb wdX12_orders_41 (fct_i (by omega)) ?_
      refine lv_istore_n (lv' := [(2, .int (zI (((ftl j) : Nat) : Int))), (3, .int (zI (j : Int))), (0, .ref (B + 146)), (1, .int (zI w9))]) hx hb wdX12_orders_42 rfl hl (by decide) rfl (fun ls hl => ?_)
      refine z_iinc (v := (((j + 1) : Nat) : Int)) (lv' := [(3, .int (zI (((j + 1) : Nat) : Int))), (2, .int (zI (((ftl j) : Nat) : Int))), (0, .ref (B + 146)), (1, .int (zI w9))]) hx hb wdX12_orders_43 hl (k := 1) rfl (by omega) (by decide) rfl (fun ls hl => ?_)
      refine lv_goto (tgt := 31) hx hb wdX12_orders_46 (by decide) ?_
      replace hl : lv_has ls 5 [(3, .int (zI (((j + 1) : Nat) : Int))), (2, .int (zI (((ftl ((j + 1) - 1)) : Nat) : Int))), (0, .ref (B + 146)), (1, .int (zI w9))] := by rw [show j + 1 - 1 = j by omega]; exact hl
      exact ih (j + 1) (by omega) (by omega) (by omega) _ _ ls w (lv_sub hl [0, 1, 2, 3] rfl)
theorem wdX12_orders_59 : decode cX12_orders 59 = .ok (.iload 4, 2) := dX12_orders_59
theorem wdX12_orders_61 : decode cX12_orders 61 = .ok (.iload_n 2, 1) := dX12_orders_61
theorem wdX12_orders_62 : decode cX12_orders 62 = .ok (.if_icmp .ge 29, 3) := dX12_orders_62
theorem wdX12_orders_65 : decode cX12_orders 65 = .ok (.aload_n 0, 1) := dX12_orders_65
theorem wdX12_orders_66 : decode cX12_orders 66 = .ok (.iload 4, 2) := dX12_orders_66
theorem wdX12_orders_68 : decode cX12_orders 68 = .ok (.invokevirtual 312, 3) := dX12_orders_68
theorem wtk_X12_worksOrder : Cond.code yX12_worksOrder cX12_worksOrder 8 none ∈ TB := tk_X12_worksOrder
theorem wgc_X12_worksOrder : GoodIn TB (cw yX12_worksOrder cX12_worksOrder 8 none) := goodIn_c2 wtk_X12_worksOrder
theorem wtb_498 : Cond.methodLink "ToneLinesModel" 312 yX12_worksOrder ∈ TB := tb_712
theorem wtb_499 : Cond.instanceMethod yX12_worksOrder ∈ TB := tb_713
theorem wtb_500 : Cond.selects "ToneLinesModel" yX12_worksOrder yX12_worksOrder ∈ TB := tb_714
theorem wgv_X12_312 : GoodIn TB (wsV RX12 312 RX12 yX12_worksOrder (cw yX12_worksOrder cX12_worksOrder 8 none)) := goodIn_4 wtb_498 wtb_499 wtb_500 wtb_105 wgc_X12_worksOrder
theorem whv_X12_worksOrder : yX12_worksOrder.cls = RX12 ∧ yX12_worksOrder.cls ≠ "java/lang/invoke/MethodHandle" ∧ yX12_worksOrder.cls ≠ "java/lang/invoke/VarHandle" ∧ (parseMethodDescriptor yX12_worksOrder.desc).map (fun d => d.parameters.length) = some 1 := hv_X12_worksOrder
theorem wdX12_orders_71 : decode cX12_orders 71 = .ok (.aload_n 0, 1) := dX12_orders_71
theorem wdX12_orders_72 : decode cX12_orders 72 = .ok (.invokevirtual 306, 3) := dX12_orders_72
theorem wdX12_orders_75 : decode cX12_orders 75 = .ok (.ifCond .eq 6, 3) := dX12_orders_75
theorem wdX12_orders_78 : decode cX12_orders 78 = .ok (.iinc 3 1, 3) := dX12_orders_78
theorem wdX12_orders_81 : decode cX12_orders 81 = .ok (.aload_n 0, 1) := dX12_orders_81
theorem wdX12_orders_82 : decode cX12_orders 82 = .ok (.invokevirtual 315, 3) := dX12_orders_82
theorem wtk_X12_collects : Cond.code yX12_collects cX12_collects 5 none ∈ TB := tk_X12_collects
theorem wgc_X12_collects : GoodIn TB (cw yX12_collects cX12_collects 5 none) := goodIn_c2 wtk_X12_collects
theorem wtb_501 : Cond.methodLink "ToneLinesModel" 315 yX12_collects ∈ TB := tb_715
theorem wtb_502 : Cond.instanceMethod yX12_collects ∈ TB := tb_716
theorem wtb_503 : Cond.selects "ToneLinesModel" yX12_collects yX12_collects ∈ TB := tb_717
theorem wgv_X12_315 : GoodIn TB (wsV RX12 315 RX12 yX12_collects (cw yX12_collects cX12_collects 5 none)) := goodIn_4 wtb_501 wtb_502 wtb_503 wtb_105 wgc_X12_collects
theorem whv_X12_collects : yX12_collects.cls = RX12 ∧ yX12_collects.cls ≠ "java/lang/invoke/MethodHandle" ∧ yX12_collects.cls ≠ "java/lang/invoke/VarHandle" ∧ (parseMethodDescriptor yX12_collects.desc).map (fun d => d.parameters.length) = some 0 := hv_X12_collects
theorem wdX12_orders_85 : decode cX12_orders 85 = .ok (.iinc 4 1, 3) := dX12_orders_85
theorem wdX12_orders_88 : decode cX12_orders 88 = .ok (.goto (-29), 3) := dX12_orders_88
set_option maxRecDepth 4000 in
theorem lp_X12_orders2 {p : Program} {l : Launch} {e : Env} {s : State} {m : MethodId} {args : Array Value} {below : List Frame} {meth : Method} {c : Code} {D : va_G} {B : Nat} {cy : Nat → ClassId} {H0 : Heap} {Q : State → Prop} {M : Mem} {R : Room} {Ps : Nat → Nat → Int} {mr k q hv ed : Nat} {o : Wo} {Hs : Nat → Fw} {w9 : Int} (F : CallFix p m c cX12_orders 5 s args TB RX12) (hR1 : 9 ≤ R.frames) (hR2 : 216 ≤ R.locals) (hm6 : mr ≤ 6) (hokm : okW q (sg9 Ps (q, hv, ed, o) mr)) (hkR : ∀ i, i < ftl mr → okW q (odR Ps mr (q, hv, ed, o) i)) (kk : ∀ (cz : Nat) (Nm : Mem) (H : Heap) (locs : List Loc) (ls : Array Slot), (cz = ftl mr) → (isY Nm q (odR Ps mr (q, hv, ed, o)) (rpF q (odR Ps mr (q, hv, ed, o)) (ftl mr))) → Wd D B cy s H0 Nm H locs → lv_has ls 5 [(3, .int (zI (((smF q (odR Ps mr (q, hv, ed, o)) (sg9 Ps (q, hv, ed, o) mr) cz) : Nat) : Int))), (0, .ref (B + 146)), (1, .int (zI w9))] → W p l e R s m args below meth c H locs 0 0 Q (F0 m 91 ls [])) : ∀ (f : Nat) (cz : Nat) (Nm : Mem), (cz ≤ ftl mr) → (MS Nm Ps mr (q, hv, ed, o) Hs k) → (isDu Nm q (sg9 Ps (q, hv, ed, o) mr)) → (isY Nm q (odR Ps mr (q, hv, ed, o)) (rpF q (odR Ps mr (q, hv, ed, o)) cz)) → (ftl mr ≤ cz + f) → ∀ (H : Heap) (locs : List Loc) (ls : Array Slot), Wd D B cy s H0 Nm H locs → lv_has ls 5 [(4, .int (zI (cz : Int))), (3, .int (zI (((smF q (odR Ps mr (q, hv, ed, o)) (sg9 Ps (q, hv, ed, o) mr) cz) : Nat) : Int))), (2, .int (zI (((ftl mr) : Nat) : Int))), (0, .ref (B + 146)), (1, .int (zI w9))] → W p l e R s m args below meth c H locs 0 0 Q (F0 m 59 ls []) := by
  have hx := F.1
  have hb := F.2.1
  have hfb := fct_b hm6
  intro f
  induction f with
  | zero =>
    intro cz Nm i0 i1 i2 i3 hf H locs ls w hl
    have hsm := sm_le (q := q) (w := (odR Ps mr (q, hv, ed, o))) (d := (sg9 Ps (q, hv, ed, o) mr)) cz
    refine lv_iload hx hb wdX12_orders_59 (lv_at hl 0 rfl) ?_
    refine lv_iload_n hx hb wdX12_orders_61 rfl (lv_at hl 2 rfl) ?_
    refine z_icmp_ge (tgt := 91) hx hb (by omega) (by omega) wdX12_orders_62 (by decide) (fun c1 => ?_) (fun c1 => False.elim (by omega))
    exact kk cz Nm _ _ ls (by omega) (by have h9 := i3; rw [show cz = ftl mr by omega] at h9; exact h9) w (lv_sub hl [1, 3, 4] rfl)
  | succ f ih =>
    intro cz Nm i0 i1 i2 i3 hf H locs ls w hl
    have hsm := sm_le (q := q) (w := (odR Ps mr (q, hv, ed, o))) (d := (sg9 Ps (q, hv, ed, o) mr)) cz
    refine lv_iload hx hb wdX12_orders_59 (lv_at hl 0 rfl) ?_
    refine lv_iload_n hx hb wdX12_orders_61 rfl (lv_at hl 2 rfl) ?_
    refine z_icmp_ge (tgt := 91) hx hb (by omega) (by omega) wdX12_orders_62 (by decide) (fun c1 => ?_) (fun c1 => ?_)
    · exact kk cz Nm _ _ ls (by omega) (by have h9 := i3; rw [show cz = ftl mr by omega] at h9; exact h9) w (lv_sub hl [1, 3, 4] rfl)
    · refine lv_aload_n hx hb wdX12_orders_65 rfl (lv_at hl 3 rfl) ?_
      refine lv_iload hx hb wdX12_orders_66 (lv_at hl 0 rfl) ?_
      refine k_Vv F w (As := [.int (zI (cz : Int))]) (rest := []) (a := 146) (kd_lt (a := 146) (show kd 146 = (12, 0, 0) from rfl) (by decide)) (sh_12 rfl _ _) rfl (k_worksOrder i1 hm6 (c9 := cz) (by omega)) wgv_X12_312 whv_X12_worksOrder ⟨(by omega), (by omega)⟩ hl.1 rfl (Nat.le_of_ble_eq_true rfl) ⟨Nat.zero_le _, Nat.zero_le _⟩ wdX12_orders_68 (fun Ma2 H locs hp w => ?_)
      rcases hp with ⟨⟨zW, hRW⟩, hFW⟩
      have hSW := i1.fw hFW
      have hDW := i2.fr (hFW.1 157 (by decide) (by decide))
      have hYW := i3.fr (hFW.2.1 25 (by decide) (by decide)) (hFW.1 158 (by decide) (by decide))
      refine lv_aload_n hx hb wdX12_orders_71 rfl (lv_at hl 3 rfl) ?_
      refine k_Vi F w (As := []) (rest := []) (a := 146) (kd_lt (a := 146) (show kd 146 = (12, 0, 0) from rfl) (by decide)) (sh_12 rfl _ _) rfl (k_isDue hRW hDW hokm) wgv_X12_306 whv_X12_isDue ⟨(by omega), (by omega)⟩ hl.1 rfl (Nat.le_of_ble_eq_true rfl) ⟨Nat.zero_le _, Nat.zero_le _⟩ wdX12_orders_72 (fun r Ma3 H locs hp w => ?_)
      rcases hp with ⟨⟨hra, rfl⟩ | ⟨hra, rfl⟩, hMe⟩
      · rw [hMe] at w
        refine z_if_eq (tgt := 81) hx hb (by omega) wdX12_orders_75 (by decide) (fun c4 => False.elim (by omega)) (fun c4 => ?_)
        refine z_iinc (v := ((((smF q (odR Ps mr (q, hv, ed, o)) (sg9 Ps (q, hv, ed, o) mr) cz) + 1) : Nat) : Int)) (lv' := [(3, .int (zI ((((smF q (odR Ps mr (q, hv, ed, o)) (sg9 Ps (q, hv, ed, o) mr) cz) + 1) : Nat) : Int))), (4, .int (zI (cz : Int))), (2, .int (zI (((ftl mr) : Nat) : Int))), (0, .ref (B + 146)), (1, .int (zI w9))]) hx hb wdX12_orders_78 hl (k := 1) rfl (by omega) (by decide) rfl (fun ls hl => ?_)
        refine lv_aload_n hx hb wdX12_orders_81 rfl (lv_at hl 3 rfl) ?_
        refine k_Vv F w (As := []) (rest := []) (a := 146) (kd_lt (a := 146) (show kd 146 = (12, 0, 0) from rfl) (by decide)) (sh_12 rfl _ _) rfl (k_collects (w9 := (odR Ps mr (q, hv, ed, o))) hRW hYW (by omega) (fun i hi => (hkR i (by omega)))) wgv_X12_315 whv_X12_collects ⟨(by omega), (by omega)⟩ hl.1 rfl (Nat.le_of_ble_eq_true rfl) ⟨Nat.zero_le _, Nat.zero_le _⟩ wdX12_orders_82 (fun Ma5 H locs hp w => ?_)
        rcases hp with ⟨hY3, hF3⟩
        refine z_iinc (v := (((cz + 1) : Nat) : Int)) (lv' := [(4, .int (zI (((cz + 1) : Nat) : Int))), (3, .int (zI ((((smF q (odR Ps mr (q, hv, ed, o)) (sg9 Ps (q, hv, ed, o) mr) cz) + 1) : Nat) : Int))), (2, .int (zI (((ftl mr) : Nat) : Int))), (0, .ref (B + 146)), (1, .int (zI w9))]) hx hb wdX12_orders_85 hl (k := 1) rfl (by omega) (by decide) rfl (fun ls hl => ?_)
        refine lv_goto (tgt := 59) hx hb wdX12_orders_88 (by decide) ?_
        replace hl : lv_has ls 5 [(4, .int (zI (((cz + 1) : Nat) : Int))), (3, .int (zI (((smF q (odR Ps mr (q, hv, ed, o)) (sg9 Ps (q, hv, ed, o) mr) (cz + 1)) : Nat) : Int))), (2, .int (zI (((ftl mr) : Nat) : Int))), (0, .ref (B + 146)), (1, .int (zI w9))] := by rw [sm_y (by exact hra)]; exact hl
        exact ih (cz + 1) Ma5 (by omega) (hSW.fr (hF3.1 147 (by decide) (by decide)) (hF3.1 149 (by decide) (by decide)) (hF3.1 155 (by decide) (by decide)) (hF3.2 5 (by decide)) (hF3.2 20 (by decide))) (hDW.fr (hF3.1 157 (by decide) (by decide))) hY3 (by omega) _ _ ls w (lv_sub hl [0, 1, 2, 3, 4] rfl)
      · rw [hMe] at w
        refine z_if_eq (tgt := 81) hx hb (by omega) wdX12_orders_75 (by decide) (fun c6 => ?_) (fun c6 => False.elim (by omega))
        refine lv_aload_n hx hb wdX12_orders_81 rfl (lv_at hl 3 rfl) ?_
        refine k_Vv F w (As := []) (rest := []) (a := 146) (kd_lt (a := 146) (show kd 146 = (12, 0, 0) from rfl) (by decide)) (sh_12 rfl _ _) rfl (k_collects (w9 := (odR Ps mr (q, hv, ed, o))) hRW hYW (by omega) (fun i hi => (hkR i (by omega)))) wgv_X12_315 whv_X12_collects ⟨(by omega), (by omega)⟩ hl.1 rfl (Nat.le_of_ble_eq_true rfl) ⟨Nat.zero_le _, Nat.zero_le _⟩ wdX12_orders_82 (fun Ma7 H locs hp w => ?_)
        rcases hp with ⟨hY3, hF3⟩
        refine z_iinc (v := (((cz + 1) : Nat) : Int)) (lv' := [(4, .int (zI (((cz + 1) : Nat) : Int))), (3, .int (zI (((smF q (odR Ps mr (q, hv, ed, o)) (sg9 Ps (q, hv, ed, o) mr) cz) : Nat) : Int))), (2, .int (zI (((ftl mr) : Nat) : Int))), (0, .ref (B + 146)), (1, .int (zI w9))]) hx hb wdX12_orders_85 hl (k := 0) rfl (by omega) (by decide) rfl (fun ls hl => ?_)
        refine lv_goto (tgt := 59) hx hb wdX12_orders_88 (by decide) ?_
        replace hl : lv_has ls 5 [(4, .int (zI (((cz + 1) : Nat) : Int))), (3, .int (zI (((smF q (odR Ps mr (q, hv, ed, o)) (sg9 Ps (q, hv, ed, o) mr) (cz + 1)) : Nat) : Int))), (2, .int (zI (((ftl mr) : Nat) : Int))), (0, .ref (B + 146)), (1, .int (zI w9))] := by rw [sm_n (by exact hra)]; exact hl
        exact ih (cz + 1) Ma7 (by omega) (hSW.fr (hF3.1 147 (by decide) (by decide)) (hF3.1 149 (by decide) (by decide)) (hF3.1 155 (by decide) (by decide)) (hF3.2 5 (by decide)) (hF3.2 20 (by decide))) (hDW.fr (hF3.1 157 (by decide) (by decide))) hY3 (by omega) _ _ ls w (lv_sub hl [0, 1, 2, 3, 4] rfl)
theorem wdX12_orders_0 : decode cX12_orders 0 = .ok (.iload_n 1, 1) := dX12_orders_0
theorem wdX12_orders_1 : decode cX12_orders 1 = .ok (.iconst 0, 1) := dX12_orders_1
theorem wdX12_orders_2 : decode cX12_orders 2 = .ok (.iconst 1, 1) := dX12_orders_2
theorem wdX12_orders_3 : decode cX12_orders 3 = .ok (.invokestatic 55, 3) := dX12_orders_3
theorem wdX12_orders_6 : decode cX12_orders 6 = .ok (.ifCond .ne 5, 3) := dX12_orders_6
theorem wdX12_orders_11 : decode cX12_orders 11 = .ok (.aload_n 0, 1) := dX12_orders_11
theorem wdX12_orders_12 : decode cX12_orders 12 = .ok (.getfield 239, 3) := dX12_orders_12
theorem wdX12_orders_15 : decode cX12_orders 15 = .ok (.bipush 6, 2) := dX12_orders_15
theorem wdX12_orders_17 : decode cX12_orders 17 = .ok (.if_icmp .le 6, 3) := dX12_orders_17
theorem wdX12_orders_23 : decode cX12_orders 23 = .ok (.aload_n 0, 1) := dX12_orders_23
theorem wdX12_orders_24 : decode cX12_orders 24 = .ok (.invokevirtual 303, 3) := dX12_orders_24
theorem wdX12_orders_27 : decode cX12_orders 27 = .ok (.iconst 1, 1) := dX12_orders_27
theorem wdX12_orders_28 : decode cX12_orders 28 = .ok (.istore_n 2, 1) := dX12_orders_28
theorem wdX12_orders_29 : decode cX12_orders 29 = .ok (.iconst 2, 1) := dX12_orders_29
theorem wdX12_orders_30 : decode cX12_orders 30 = .ok (.istore_n 3, 1) := dX12_orders_30
theorem wdX12_orders_49 : decode cX12_orders 49 = .ok (.iconst 0, 1) := dX12_orders_49
theorem wdX12_orders_50 : decode cX12_orders 50 = .ok (.istore_n 3, 1) := dX12_orders_50
theorem wdX12_orders_51 : decode cX12_orders 51 = .ok (.aload_n 0, 1) := dX12_orders_51
theorem wdX12_orders_52 : decode cX12_orders 52 = .ok (.iconst 0, 1) := dX12_orders_52
theorem wdX12_orders_53 : decode cX12_orders 53 = .ok (.putfield 309, 3) := dX12_orders_53
theorem wdX12_orders_56 : decode cX12_orders 56 = .ok (.iconst 0, 1) := dX12_orders_56
theorem wdX12_orders_57 : decode cX12_orders 57 = .ok (.istore 4, 2) := dX12_orders_57
theorem wdX12_orders_91 : decode cX12_orders 91 = .ok (.iload_n 1, 1) := dX12_orders_91
theorem wdX12_orders_92 : decode cX12_orders 92 = .ok (.ifCond .ne 10, 3) := dX12_orders_92
theorem wdX12_orders_102 : decode cX12_orders 102 = .ok (.iload_n 3, 1) := dX12_orders_102
theorem wdX12_orders_103 : decode cX12_orders 103 = .ok (.ireturn, 1) := dX12_orders_103
theorem wdX12_orders_95 : decode cX12_orders 95 = .ok (.aload_n 0, 1) := dX12_orders_95
theorem wdX12_orders_96 : decode cX12_orders 96 = .ok (.getfield 309, 3) := dX12_orders_96
theorem wdX12_orders_99 : decode cX12_orders 99 = .ok (.goto 4, 3) := dX12_orders_99
theorem wdX12_orders_20 : decode cX12_orders 20 = .ok (.bipush (-2), 2) := dX12_orders_20
theorem wdX12_orders_22 : decode cX12_orders 22 = .ok (.ireturn, 1) := dX12_orders_22
theorem wdX12_orders_9 : decode cX12_orders 9 = .ok (.iconst (-1), 1) := dX12_orders_9
theorem wdX12_orders_10 : decode cX12_orders 10 = .ok (.ireturn, 1) := dX12_orders_10
set_option maxRecDepth 4000 in
theorem k_orders {l : Launch} {D : va_G} {B : Nat} {cy : Nat → ClassId} {M : Mem} {Ps : Nat → Nat → Int} {mr k q hv ed : Nat} {o : Wo} {Hs : Nat → Fw} (hS : MS M Ps mr (q, hv, ed, o) Hs k) {w9 : Int} (hw9 : rg w9) : Ci l D B cy yX12_orders cX12_orders 5 (some .int) 10 233 [.ref (B + 146), .int (zI w9)] M (fun r M1 => r = zI (odA Ps mr w9 (q, hv, ed, o))) := by
  refine s_any (by decide) (Nat.le_of_ble_eq_true rfl) ?_
  intro p e s m below meth c ls F hr hlocks w hl
  have F : CallFix p m c cX12_orders 5 s _ TB RX12 := F
  have hx := F.1
  have hb := F.2.1
  have hl : lv_has ls 5 [(0, .ref (B + 146)), (1, .int (zI w9))] := hl
  have hm8 := hS.1.1
  have hk12 := hS.2.2.2.2.1
  have hC : TW M q hv ed o := hS.T
  have hW : isR M 147 o.1 q hv ed o.2.1 o.2.2 := hC.1
  have hwf := hC.wf
  have hKL := hwf.2.2.2.2
  have hn12 := hwf.1
  have hq12 := hwf.2.1
  have hhv := hwf.2.2.1
  have hed := hwf.2.2.2.1
  have hokm : okW q (sg9 Ps (q, hv, ed, o) mr) := (dvF_l lkB.rf lkB.rf hC.2.1 mr (fun j hj => (hS.1.2 j hj).2)).2
  refine lv_iload_n hx hb wdX12_orders_0 rfl (lv_at hl 1 rfl) ?_
  refine lv_iconst (v := zI 0) hx hb wdX12_orders_1 rfl ?_
  refine lv_iconst (v := zI 1) hx hb wdX12_orders_2 rfl ?_
  refine k_Si F w (As := [.int (zI w9), .int (zI 0), .int (zI 1)]) (rest := []) (s_X12_in (v := w9) (a := 0) (b := 1) (by omega) (by omega) (by omega)) wgs_X12_55 whs_X12_in ⟨(Nat.le_of_ble_eq_true rfl), (Nat.le_of_ble_eq_true rfl)⟩ hl.1 rfl (Nat.le_of_ble_eq_true rfl) ⟨Nat.zero_le _, Nat.zero_le _⟩ wdX12_orders_3 (fun r Ma2 H locs hp w => ?_)
  rcases hp with ⟨⟨hb1, rfl⟩ | ⟨hb1, rfl⟩, hMe⟩
  · rw [hMe] at w
    refine z_if_ne (tgt := 11) hx hb (by omega) wdX12_orders_6 (by decide) (fun c3 => ?_) (fun c3 => False.elim (by omega))
    refine lv_aload_n hx hb wdX12_orders_11 rfl (lv_at hl 0 rfl) ?_
    refine f_12_5 F w (a := 146) rfl wtb_291 wdX12_orders_12 ?_
    refine r_val (v := (zI (mr : Int))) (hS.2.1) ?_
    refine lv_bipush (v := zI 6) hx hb wdX12_orders_15 (by decide) ?_
    refine z_icmp_le (tgt := 23) hx hb (by omega) (by omega) wdX12_orders_17 (by decide) (fun c4 => ?_) (fun c4 => ?_)
    · have hm6 : mr ≤ 6 := by omega
      have hfb := fct_b hm6
      have hkR : ∀ i, i < ftl mr → okW q (odR Ps mr (q, hv, ed, o) i) := fun i hi => by rw [od_rw hm6 hi]; exact (sw_l (fun j hj => (hS.1.2 j hj).2) hC.2.1 lkB.rf lkB.rf mr (od_lt hm6 (ckB_of hm6 hi).1)).2
      refine lv_aload_n hx hb wdX12_orders_23 rfl (lv_at hl 0 rfl) ?_
      refine k_Vv F w (As := []) (rest := []) (a := 146) (kd_lt (a := 146) (show kd 146 = (12, 0, 0) from rfl) (by decide)) (sh_12 rfl _ _) rfl (k_laysDue hS) wgv_X12_303 whv_X12_laysDue ⟨(Nat.le_of_ble_eq_true rfl), (Nat.le_of_ble_eq_true rfl)⟩ hl.1 rfl (Nat.le_of_ble_eq_true rfl) ⟨Nat.zero_le _, Nat.zero_le _⟩ wdX12_orders_24 (fun Ma5 H locs hp w => ?_)
      rcases hp with ⟨hD1, hS1⟩
      refine lv_iconst (v := zI 1) hx hb wdX12_orders_27 rfl ?_
      refine lv_istore_n (lv' := [(2, .int (zI 1)), (0, .ref (B + 146)), (1, .int (zI w9))]) hx hb wdX12_orders_28 rfl hl (by decide) rfl (fun ls hl => ?_)
      refine lv_iconst (v := zI 2) hx hb wdX12_orders_29 rfl ?_
      refine lv_istore_n (lv' := [(3, .int (zI 2)), (2, .int (zI 1)), (0, .ref (B + 146)), (1, .int (zI w9))]) hx hb wdX12_orders_30 rfl hl (by decide) rfl (fun ls hl => ?_)
      replace hl : lv_has ls 5 [(3, .int (zI 2)), (2, .int (zI (((ftl (2 - 1)) : Nat) : Int))), (0, .ref (B + 146)), (1, .int (zI w9))] := by rw [show ftl (2 - 1) = 1 from rfl]; exact hl
      refine lp_X12_orders1  F (Nat.le_of_ble_eq_true rfl) (Nat.le_of_ble_eq_true rfl) hm6 hS1 (fun j H locs ls x0 w hl => ?_) mr 2 (by omega) (Or.inr rfl) (by omega) _ _ ls w (lv_sub hl [0, 1, 2, 3] rfl)
      rw [x0] at hl
      refine lv_iconst (v := zI 0) hx hb wdX12_orders_49 rfl ?_
      refine lv_istore_n (lv' := [(3, .int (zI 0)), (2, .int (zI (((ftl mr) : Nat) : Int))), (0, .ref (B + 146)), (1, .int (zI w9))]) hx hb wdX12_orders_50 rfl hl (by decide) rfl (fun ls hl => ?_)
      refine lv_aload_n hx hb wdX12_orders_51 rfl (lv_at hl 2 rfl) ?_
      refine lv_iconst (v := zI 0) hx hb wdX12_orders_52 rfl ?_
      refine u_12_25 F w (a := 146) rfl wtb_497 wdX12_orders_53 (fun H locs w => ?_)
      refine lv_iconst (v := zI 0) hx hb wdX12_orders_56 rfl ?_
      refine lv_istore (lv' := [(4, .int (zI 0)), (3, .int (zI 0)), (2, .int (zI (((ftl mr) : Nat) : Int))), (0, .ref (B + 146)), (1, .int (zI w9))]) hx hb wdX12_orders_57 hl (by decide) rfl (fun ls hl => ?_)
      replace hl : lv_has ls 5 [(4, .int (zI 0)), (3, .int (zI (((smF q (odR Ps mr (q, hv, ed, o)) (sg9 Ps (q, hv, ed, o) mr) 0) : Nat) : Int))), (2, .int (zI (((ftl mr) : Nat) : Int))), (0, .ref (B + 146)), (1, .int (zI w9))] := by rw [smF]; exact hl
      refine lp_X12_orders2 (M := M) F (Nat.le_of_ble_eq_true rfl) (Nat.le_of_ble_eq_true rfl) hm6 hokm hkR (fun cz Nm H locs ls x0 x1 w hl => ?_) (ftl mr) 0 (st Ma5 146 25 (zI 0)) (Nat.zero_le _) (hS1.fr (st_ob (by decide)) (st_ob (by decide)) (st_ob (by decide)) (st_ne (Or.inr (by decide))) (st_ne (Or.inr (by decide)))) (hD1.fr (st_ob (by decide))) ⟨st_at, fun j hj => absurd hj (Nat.not_lt_zero j)⟩ (by omega) _ _ ls w (lv_sub hl [0, 1, 2, 3, 4] rfl)
      rw [x0] at hl
      refine lv_iload_n hx hb wdX12_orders_91 rfl (lv_at hl 2 rfl) ?_
      refine z_if_ne (tgt := 102) hx hb (by omega) wdX12_orders_92 (by decide) (fun c6 => ?_) (fun c6 => ?_)
      · refine lv_iload_n hx hb wdX12_orders_102 rfl (lv_at hl 0 rfl) ?_
        exact e_i F w hr hlocks (congrArg zI ((congrArg (fun v9 : Nat => (v9 : Int)) (sm_pi hm6 (fun cz hc => od_rw hm6 hc))).trans (odA_1 (Ps := Ps) (x := (q, hv, ed, o)) (w := w9) (by omega) hm6).symm)) wdX12_orders_103
      · refine lv_aload_n hx hb wdX12_orders_95 rfl (lv_at hl 1 rfl) ?_
        refine f_12_25 F w (a := 146) rfl wtb_497 wdX12_orders_96 ?_
        refine r_val (v := (zI ((((rpF q (odR Ps mr (q, hv, ed, o)) (ftl mr)).length) : Nat) : Int))) (x1.1) ?_
        refine lv_goto (tgt := 103) hx hb wdX12_orders_99 (by decide) ?_
        exact e_i F w hr hlocks (congrArg zI ((congrArg (fun v9 : Nat => (v9 : Int)) (rp_pi hm6 (fun cz hc => od_rw hm6 hc))).trans (odA_0 (Ps := Ps) (x := (q, hv, ed, o)) (w := w9) (by omega) hm6).symm)) wdX12_orders_103
    · refine lv_bipush (v := zI (-2)) hx hb wdX12_orders_20 (by decide) ?_
      exact e_i F w hr hlocks (congrArg zI (odA_b (by omega) (by omega)).symm) wdX12_orders_22
  · rw [hMe] at w
    refine z_if_ne (tgt := 11) hx hb (by omega) wdX12_orders_6 (by decide) (fun c7 => False.elim (by omega)) (fun c7 => ?_)
    refine lv_iconst (v := zI (-1)) hx hb wdX12_orders_9 rfl ?_
    exact e_i F w hr hlocks (congrArg zI (odA_n (by omega)).symm) wdX12_orders_10
