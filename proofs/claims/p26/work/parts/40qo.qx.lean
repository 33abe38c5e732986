theorem wtk_X12_laysDue : Cond.code yX12_laysDue cX12_laysDue 2 none ∈ TB := tk_X12_laysDue
theorem wgc_X12_laysDue : GoodIn TB (cw yX12_laysDue cX12_laysDue 2 none) := goodIn_c2 wtk_X12_laysDue
theorem wtb_428 : Cond.methodLink "ToneLinesModel" 303 yX12_laysDue ∈ TB := tb_644
theorem wtb_429 : Cond.instanceMethod yX12_laysDue ∈ TB := tb_645
theorem wtb_430 : Cond.selects "ToneLinesModel" yX12_laysDue yX12_laysDue ∈ TB := tb_646
theorem wgv_X12_303 : GoodIn TB (wsV RX12 303 RX12 yX12_laysDue (cw yX12_laysDue cX12_laysDue 2 none)) := goodIn_4 wtb_428 wtb_429 wtb_430 wtb_105 wgc_X12_laysDue
theorem whv_X12_laysDue : yX12_laysDue.cls = RX12 ∧ yX12_laysDue.cls ≠ "java/lang/invoke/MethodHandle" ∧ yX12_laysDue.cls ≠ "java/lang/invoke/VarHandle" ∧ (parseMethodDescriptor yX12_laysDue.desc).map (fun d => d.parameters.length) = some 0 := hv_X12_laysDue
theorem wtk_X12_isDue : Cond.code yX12_isDue cX12_isDue 2 (some .boolean) ∈ TB := tk_X12_isDue
theorem wgc_X12_isDue : GoodIn TB (cw yX12_isDue cX12_isDue 2 (some .boolean)) := goodIn_c2 wtk_X12_isDue
theorem wtb_431 : Cond.methodLink "ToneLinesModel" 306 yX12_isDue ∈ TB := tb_647
theorem wtb_432 : Cond.instanceMethod yX12_isDue ∈ TB := tb_648
theorem wtb_433 : Cond.selects "ToneLinesModel" yX12_isDue yX12_isDue ∈ TB := tb_649
theorem wgv_X12_306 : GoodIn TB (wsV RX12 306 RX12 yX12_isDue (cw yX12_isDue cX12_isDue 2 (some .boolean))) := goodIn_4 wtb_431 wtb_432 wtb_433 wtb_105 wgc_X12_isDue
theorem whv_X12_isDue : yX12_isDue.cls = RX12 ∧ yX12_isDue.cls ≠ "java/lang/invoke/MethodHandle" ∧ yX12_isDue.cls ≠ "java/lang/invoke/VarHandle" ∧ (parseMethodDescriptor yX12_isDue.desc).map (fun d => d.parameters.length) = some 0 := hv_X12_isDue
theorem wdX12_needed_29 : decode cX12_needed 29 = .ok (.iload_n 3, 1) := dX12_needed_29
theorem wdX12_needed_30 : decode cX12_needed 30 = .ok (.aload_n 0, 1) := dX12_needed_30
theorem wdX12_needed_31 : decode cX12_needed 31 = .ok (.getfield 239, 3) := dX12_needed_31
theorem wdX12_needed_34 : decode cX12_needed 34 = .ok (.if_icmp .ge 20, 3) := dX12_needed_34
theorem wdX12_needed_37 : decode cX12_needed 37 = .ok (.iload_n 3, 1) := dX12_needed_37
theorem wdX12_needed_38 : decode cX12_needed 38 = .ok (.iload_n 2, 1) := dX12_needed_38
theorem wdX12_needed_39 : decode cX12_needed 39 = .ok (.if_icmp .eq 9, 3) := dX12_needed_39
theorem wdX12_needed_48 : decode cX12_needed 48 = .ok (.iinc 3 1, 3) := dX12_needed_48
theorem wdX12_needed_51 : decode cX12_needed 51 = .ok (.goto (-22), 3) := dX12_needed_51
theorem wdX12_needed_42 : decode cX12_needed 42 = .ok (.aload_n 0, 1) := dX12_needed_42
theorem wdX12_needed_43 : decode cX12_needed 43 = .ok (.iload_n 3, 1) := dX12_needed_43
theorem wdX12_needed_44 : decode cX12_needed 44 = .ok (.invokevirtual 166, 3) := dX12_needed_44
theorem wdX12_needed_47 : decode cX12_needed 47 = .ok (.pop, 1) := dX12_needed_47
set_option maxRecDepth 4000 in
theorem lp_X12_needed2 {p : Program} {l : Launch} {e : Env} {s : State} {m : MethodId} {args : Array Value} {below : List Frame} {meth : Method} {c : Code} {D : va_G} {B : Nat} {cy : Nat → ClassId} {H0 : Heap} {Q : State → Prop} {M : Mem} {R : Room} {Ps : Nat → Nat → Int} {mr k q hv ed w9 bb : Nat} {o : Wo} {Hs : Nat → Fw} (F : CallFix p m c cX12_needed 4 s args TB RX12) (hR1 : 8 ≤ R.frames) (hR2 : 189 ≤ R.locals) (hm8 : mr ≤ 8) (hw9 : w9 < mr) (kk : ∀ (k9 : Nat) (z : Int) (Nm : Mem) (H : Heap) (locs : List Loc) (ls : Array Slot), (RW Nm q hv ed (nsW9 Ps q hv ed w9 mr o) z) → (MS Nm Ps mr (q, hv, ed, o) Hs k) → (isDu Nm q (sg9 Ps (q, hv, ed, o) mr)) → Wd D B cy s H0 Nm H locs → lv_has ls 4 [(2, .int (zI (w9 : Int))), (1, .int (zI (bb : Int))), (0, .ref (B + 146))] → W p l e R s m args below meth c H locs 0 0 Q (F0 m 54 ls [])) : ∀ (f : Nat) (k9 : Nat) (z : Int) (Nm : Mem), (k9 ≤ mr) → (RW Nm q hv ed (nsW9 Ps q hv ed w9 k9 o) z) → (MS Nm Ps mr (q, hv, ed, o) Hs k) → (isDu Nm q (sg9 Ps (q, hv, ed, o) mr)) → (mr ≤ k9 + f) → ∀ (H : Heap) (locs : List Loc) (ls : Array Slot), Wd D B cy s H0 Nm H locs → lv_has ls 4 [(3, .int (zI (k9 : Int))), (2, .int (zI (w9 : Int))), (1, .int (zI (bb : Int))), (0, .ref (B + 146))] → W p l e R s m args below meth c H locs 0 0 Q (F0 m 29 ls []) := by
  have hx := F.1
  have hb := F.2.1
  intro f
  induction f with
  | zero =>
    intro k9 z Nm i0 i1 i2 i3 hf H locs ls w hl
    refine lv_iload_n hx hb wdX12_needed_29 rfl (lv_at hl 0 rfl) ?_
    refine lv_aload_n hx hb wdX12_needed_30 rfl (lv_at hl 3 rfl) ?_
    refine f_12_5 F w (a := 146) rfl wtb_291 wdX12_needed_31 ?_
    refine r_val (v := (zI (mr : Int))) (i2.2.1) ?_
    refine z_icmp_ge (tgt := 54) hx hb (by omega) (by omega) wdX12_needed_34 (by decide) (fun c1 => ?_) (fun c1 => False.elim (by omega))
    exact kk k9 z Nm _ _ ls (by have h9 := i1; rw [show k9 = mr by omega] at h9; exact h9) i2 i3 w (lv_sub hl [1, 2, 3] rfl)
  | succ f ih =>
    intro k9 z Nm i0 i1 i2 i3 hf H locs ls w hl
    refine lv_iload_n hx hb wdX12_needed_29 rfl (lv_at hl 0 rfl) ?_
    refine lv_aload_n hx hb wdX12_needed_30 rfl (lv_at hl 3 rfl) ?_
    refine f_12_5 F w (a := 146) rfl wtb_291 wdX12_needed_31 ?_
    refine r_val (v := (zI (mr : Int))) (i2.2.1) ?_
    refine z_icmp_ge (tgt := 54) hx hb (by omega) (by omega) wdX12_needed_34 (by decide) (fun c1 => ?_) (fun c1 => ?_)
    · exact kk k9 z Nm _ _ ls (by have h9 := i1; rw [show k9 = mr by omega] at h9; exact h9) i2 i3 w (lv_sub hl [1, 2, 3] rfl)
    · refine lv_iload_n hx hb wdX12_needed_37 rfl (lv_at hl 0 rfl) ?_
      refine lv_iload_n hx hb wdX12_needed_38 rfl (lv_at hl 1 rfl) ?_
      refine z_icmp_eq (tgt := 48) hx hb (by omega) (by omega) wdX12_needed_39 (by decide) (fun c2 => ?_) (fun c2 => ?_)
      · refine z_iinc (v := (((k9 + 1) : Nat) : Int)) (lv' := [(3, .int (zI (((k9 + 1) : Nat) : Int))), (2, .int (zI (w9 : Int))), (1, .int (zI (bb : Int))), (0, .ref (B + 146))]) hx hb wdX12_needed_48 hl (k := 0) rfl (by omega) (by decide) rfl (fun ls hl => ?_)
        refine lv_goto (tgt := 29) hx hb wdX12_needed_51 (by decide) ?_
        exact ih (k9 + 1) z Nm (by omega) (by rw [nsW9, if_pos (by omega)]; exact i1) i2 i3 (by omega) _ _ ls w (lv_sub hl [0, 1, 2, 3] rfl)
      · refine lv_aload_n hx hb wdX12_needed_42 rfl (lv_at hl 3 rfl) ?_
        refine lv_iload_n hx hb wdX12_needed_43 rfl (lv_at hl 0 rfl) ?_
        refine k_Vi F w (As := [.int (zI (k9 : Int))]) (rest := []) (a := 146) (kd_lt (a := 146) (show kd 146 = (12, 0, 0) from rfl) (by decide)) (sh_12 rfl _ _) rfl (s_X12_works i1 (r := k9) (by omega) (i2.1.2 k9 (by omega)).1 (i2.1.2 k9 (by omega)).2) wgv_X12_166 whv_X12_works ⟨(by omega), (by omega)⟩ hl.1 rfl (Nat.le_of_ble_eq_true rfl) ⟨Nat.zero_le _, Nat.zero_le _⟩ wdX12_needed_44 (fun r Ma3 H locs hp w => ?_)
        rcases hp with ⟨oU, dU, pU, eU, rfl, ⟨zU, hRU⟩, hFU, hpU, hdU, hp20⟩
        have hSU := i2.fw hFU
        refine lv_pop hx hb wdX12_needed_47 rfl ?_
        refine z_iinc (v := (((k9 + 1) : Nat) : Int)) (lv' := [(3, .int (zI (((k9 + 1) : Nat) : Int))), (2, .int (zI (w9 : Int))), (1, .int (zI (bb : Int))), (0, .ref (B + 146))]) hx hb wdX12_needed_48 hl (k := 0) rfl (by omega) (by decide) rfl (fun ls hl => ?_)
        refine lv_goto (tgt := 29) hx hb wdX12_needed_51 (by decide) ?_
        exact ih (k9 + 1) zU Ma3 (by omega) (by rw [nsW9, if_neg (by omega), eU]; exact hRU) hSU (i3.fr (hFU.1 157 (by decide) (by decide))) (by omega) _ _ ls w (lv_sub hl [0, 1, 2, 3] rfl)
theorem wdX12_needed_8 : decode cX12_needed 8 = .ok (.iload_n 2, 1) := dX12_needed_8
theorem wdX12_needed_9 : decode cX12_needed 9 = .ok (.aload_n 0, 1) := dX12_needed_9
theorem wdX12_needed_10 : decode cX12_needed 10 = .ok (.getfield 239, 3) := dX12_needed_10
theorem wdX12_needed_13 : decode cX12_needed 13 = .ok (.if_icmp .ge 60, 3) := dX12_needed_13
theorem wdX12_needed_16 : decode cX12_needed 16 = .ok (.aload_n 0, 1) := dX12_needed_16
theorem wdX12_needed_17 : decode cX12_needed 17 = .ok (.getfield 17, 3) := dX12_needed_17
theorem wdX12_needed_20 : decode cX12_needed 20 = .ok (.aload_n 0, 1) := dX12_needed_20
theorem wdX12_needed_21 : decode cX12_needed 21 = .ok (.getfield 13, 3) := dX12_needed_21
theorem wdX12_needed_24 : decode cX12_needed 24 = .ok (.invokestatic 162, 3) := dX12_needed_24
theorem wdX12_needed_27 : decode cX12_needed 27 = .ok (.iconst 0, 1) := dX12_needed_27
theorem wdX12_needed_28 : decode cX12_needed 28 = .ok (.istore_n 3, 1) := dX12_needed_28
theorem wdX12_needed_54 : decode cX12_needed 54 = .ok (.aload_n 0, 1) := dX12_needed_54
theorem wdX12_needed_55 : decode cX12_needed 55 = .ok (.invokevirtual 306, 3) := dX12_needed_55
theorem wdX12_needed_58 : decode cX12_needed 58 = .ok (.ifCond .ne 9, 3) := dX12_needed_58
theorem wdX12_needed_67 : decode cX12_needed 67 = .ok (.iinc 2 1, 3) := dX12_needed_67
theorem wdX12_needed_70 : decode cX12_needed 70 = .ok (.goto (-62), 3) := dX12_needed_70
theorem wdX12_needed_61 : decode cX12_needed 61 = .ok (.iload_n 1, 1) := dX12_needed_61
theorem wdX12_needed_62 : decode cX12_needed 62 = .ok (.iconst 1, 1) := dX12_needed_62
theorem wdX12_needed_63 : decode cX12_needed 63 = .ok (.iload_n 2, 1) := dX12_needed_63
theorem wdX12_needed_64 : decode cX12_needed 64 = .ok (.ishl, 1) := dX12_needed_64
theorem wdX12_needed_65 : decode cX12_needed 65 = .ok (.ior, 1) := dX12_needed_65
theorem wdX12_needed_66 : decode cX12_needed 66 = .ok (.istore_n 1, 1) := dX12_needed_66
set_option maxRecDepth 4000 in
theorem lp_X12_needed {p : Program} {l : Launch} {e : Env} {s : State} {m : MethodId} {args : Array Value} {below : List Frame} {meth : Method} {c : Code} {D : va_G} {B : Nat} {cy : Nat → ClassId} {H0 : Heap} {Q : State → Prop} {M : Mem} {R : Room} {Ps : Nat → Nat → Int} {mr k q hv ed : Nat} {o : Wo} {Hs : Nat → Fw} (F : CallFix p m c cX12_needed 4 s args TB RX12) (hR1 : 8 ≤ R.frames) (hR2 : 189 ≤ R.locals) (hm8 : mr ≤ 8) (hokm : okW q (sg9 Ps (q, hv, ed, o) mr)) (kk : ∀ (w9 : Nat) (Nm : Mem) (H : Heap) (locs : List Loc) (ls : Array Slot), (w9 = mr) → Wd D B cy s H0 Nm H locs → lv_has ls 4 [(1, .int (zI (((ndF Ps mr (q, hv, ed, o) w9) : Nat) : Int)))] → W p l e R s m args below meth c H locs 0 0 Q (F0 m 73 ls [])) : ∀ (f : Nat) (w9 : Nat) (Nm : Mem), (w9 ≤ mr) → (MS Nm Ps mr (q, hv, ed, o) Hs k) → (isDu Nm q (sg9 Ps (q, hv, ed, o) mr)) → (mr ≤ w9 + f) → ∀ (H : Heap) (locs : List Loc) (ls : Array Slot), Wd D B cy s H0 Nm H locs → lv_has ls 4 [(2, .int (zI (w9 : Int))), (1, .int (zI (((ndF Ps mr (q, hv, ed, o) w9) : Nat) : Int))), (0, .ref (B + 146))] → W p l e R s m args below meth c H locs 0 0 Q (F0 m 8 ls []) := by
  have hx := F.1
  have hb := F.2.1
  intro f
  induction f with
  | zero =>
    intro w9 Nm i0 i1 i2 hf H locs ls w hl
    have hnl := nd_le (Ps := Ps) (m := mr) (x := (q, hv, ed, o)) (r := w9) (by omega)
    refine lv_iload_n hx hb wdX12_needed_8 rfl (lv_at hl 0 rfl) ?_
    refine lv_aload_n hx hb wdX12_needed_9 rfl (lv_at hl 2 rfl) ?_
    refine f_12_5 F w (a := 146) rfl wtb_291 wdX12_needed_10 ?_
    refine r_val (v := (zI (mr : Int))) (i1.2.1) ?_
    refine z_icmp_ge (tgt := 73) hx hb (by omega) (by omega) wdX12_needed_13 (by decide) (fun c1 => ?_) (fun c1 => False.elim (by omega))
    exact kk w9 Nm _ _ ls (by omega) w (lv_sub hl [1] rfl)
  | succ f ih =>
    intro w9 Nm i0 i1 i2 hf H locs ls w hl
    have hnl := nd_le (Ps := Ps) (m := mr) (x := (q, hv, ed, o)) (r := w9) (by omega)
    refine lv_iload_n hx hb wdX12_needed_8 rfl (lv_at hl 0 rfl) ?_
    refine lv_aload_n hx hb wdX12_needed_9 rfl (lv_at hl 2 rfl) ?_
    refine f_12_5 F w (a := 146) rfl wtb_291 wdX12_needed_10 ?_
    refine r_val (v := (zI (mr : Int))) (i1.2.1) ?_
    refine z_icmp_ge (tgt := 73) hx hb (by omega) (by omega) wdX12_needed_13 (by decide) (fun c1 => ?_) (fun c1 => ?_)
    · exact kk w9 Nm _ _ ls (by omega) w (lv_sub hl [1] rfl)
    · refine lv_aload_n hx hb wdX12_needed_16 rfl (lv_at hl 2 rfl) ?_
      refine f_12_2 F w (a := 146) rfl wtb_102 wdX12_needed_17 ?_
      refine lv_aload_n hx hb wdX12_needed_20 rfl (lv_at hl 2 rfl) ?_
      refine f_12_1 F w (a := 146) rfl wtb_179 wdX12_needed_21 ?_
      refine k_Sv F w (As := [.ref (B + 148), .ref (B + 147)]) (rest := []) (s_X12_copy (a := 148) (b := 147) rfl rfl (by decide) i1.T.1 i1.T.wf) wgs_X12_162 whs_X12_copy ⟨(by omega), (by omega)⟩ hl.1 rfl (Nat.le_of_ble_eq_true rfl) ⟨Nat.zero_le _, Nat.zero_le _⟩ wdX12_needed_24 (fun Ma2 H locs hp w => ?_)
      rcases hp with ⟨hW2, hF2⟩
      obtain ⟨z9, hR0⟩ := RW.of hW2 i1.T
      have hS2 := i1.fw (FrQ9.of1 hF2)
      have hD2 := i2.fr (hF2.1 157 (by decide))
      refine lv_iconst (v := zI 0) hx hb wdX12_needed_27 rfl ?_
      refine lv_istore_n (lv' := [(3, .int (zI 0)), (2, .int (zI (w9 : Int))), (1, .int (zI (((ndF Ps mr (q, hv, ed, o) w9) : Nat) : Int))), (0, .ref (B + 146))]) hx hb wdX12_needed_28 rfl hl (by decide) rfl (fun ls hl => ?_)
      refine lp_X12_needed2 (M := M) F (by omega) (by omega) hm8 (w9 := w9) (bb := ndF Ps mr (q, hv, ed, o) w9) (by omega) (fun k9 z Nm3 H locs ls x0 x1 x2 w hl => ?_) mr 0 z9 Ma2 (by omega) hR0 hS2 hD2 (by omega) _ _ ls w (lv_sub hl [0, 1, 2, 3] rfl)
      refine lv_aload_n hx hb wdX12_needed_54 rfl (lv_at hl 2 rfl) ?_
      refine k_Vi F w (As := []) (rest := []) (a := 146) (kd_lt (a := 146) (show kd 146 = (12, 0, 0) from rfl) (by decide)) (sh_12 rfl _ _) rfl (k_isDue x0 x2 hokm) wgv_X12_306 whv_X12_isDue ⟨(by omega), (by omega)⟩ hl.1 rfl (Nat.le_of_ble_eq_true rfl) ⟨Nat.zero_le _, Nat.zero_le _⟩ wdX12_needed_55 (fun r Ma3 H locs hp w => ?_)
      rcases hp with ⟨⟨hra, rfl⟩ | ⟨hra, rfl⟩, hMe⟩
      · rw [hMe] at w
        rw [no_ns (x := (q, hv, ed, o)) (show w9 < mr by omega)] at hra
        refine z_if_ne (tgt := 67) hx hb (by omega) wdX12_needed_58 (by decide) (fun c4 => ?_) (fun c4 => False.elim (by omega))
        refine z_iinc (v := (((w9 + 1) : Nat) : Int)) (lv' := [(2, .int (zI (((w9 + 1) : Nat) : Int))), (1, .int (zI (((ndF Ps mr (q, hv, ed, o) w9) : Nat) : Int))), (0, .ref (B + 146))]) hx hb wdX12_needed_67 hl (k := 0) rfl (by omega) (by decide) rfl (fun ls hl => ?_)
        refine lv_goto (tgt := 8) hx hb wdX12_needed_70 (by decide) ?_
        replace hl : lv_has ls 4 [(2, .int (zI (((w9 + 1) : Nat) : Int))), (1, .int (zI (((ndF Ps mr (q, hv, ed, o) (w9 + 1)) : Nat) : Int))), (0, .ref (B + 146))] := by rw [nd_y (by exact hra)]; exact hl
        exact ih (w9 + 1) Nm3 (by omega) x1 x2 (by omega) _ _ ls w (lv_sub hl [0, 1, 2] rfl)
      · rw [hMe] at w
        rw [no_ns (x := (q, hv, ed, o)) (show w9 < mr by omega)] at hra
        refine z_if_ne (tgt := 67) hx hb (by omega) wdX12_needed_58 (by decide) (fun c5 => False.elim (by omega)) (fun c5 => ?_)
        refine lv_iload_n hx hb wdX12_needed_61 rfl (lv_at hl 1 rfl) ?_
        refine lv_iconst (v := zI 1) hx hb wdX12_needed_62 rfl ?_
        refine lv_iload_n hx hb wdX12_needed_63 rfl (lv_at hl 0 rfl) ?_
        refine lv_ishl hx hb wdX12_needed_64 ?_
        refine r_val (v := (zI (((2 ^ w9) : Nat) : Int))) (zb_shl (n := w9) (by omega)) ?_
        have q6 := p2_b (n := w9) (by omega)
        refine lv_ior hx hb wdX12_needed_65 ?_
        refine r_val (v := (zI ((((ndF Ps mr (q, hv, ed, o) w9) ||| (2 ^ w9)) : Nat) : Int))) (zb_or (ndF Ps mr (q, hv, ed, o) w9) (2 ^ w9)) ?_
        have q7 := or_lt12 (a := (ndF Ps mr (q, hv, ed, o) w9)) (b := (2 ^ w9)) (by omega) (by omega)
        refine lv_istore_n (lv' := [(1, .int (zI ((((ndF Ps mr (q, hv, ed, o) w9) ||| (2 ^ w9)) : Nat) : Int))), (2, .int (zI (w9 : Int))), (0, .ref (B + 146))]) hx hb wdX12_needed_66 rfl hl (by decide) rfl (fun ls hl => ?_)
        refine z_iinc (v := (((w9 + 1) : Nat) : Int)) (lv' := [(2, .int (zI (((w9 + 1) : Nat) : Int))), (1, .int (zI ((((ndF Ps mr (q, hv, ed, o) w9) ||| (2 ^ w9)) : Nat) : Int))), (0, .ref (B + 146))]) hx hb wdX12_needed_67 hl (k := 1) rfl (by omega) (by decide) rfl (fun ls hl => ?_)
        refine lv_goto (tgt := 8) hx hb wdX12_needed_70 (by decide) ?_
        replace hl : lv_has ls 4 [(2, .int (zI (((w9 + 1) : Nat) : Int))), (1, .int (zI (((ndF Ps mr (q, hv, ed, o) (w9 + 1)) : Nat) : Int))), (0, .ref (B + 146))] := by rw [nd_n (by exact hra)]; exact hl
        exact ih (w9 + 1) Nm3 (by omega) x1 x2 (by omega) _ _ ls w (lv_sub hl [0, 1, 2] rfl)
theorem wdX12_needed_0 : decode cX12_needed 0 = .ok (.aload_n 0, 1) := dX12_needed_0
theorem wdX12_needed_1 : decode cX12_needed 1 = .ok (.invokevirtual 303, 3) := dX12_needed_1
theorem wdX12_needed_4 : decode cX12_needed 4 = .ok (.iconst 0, 1) := dX12_needed_4
theorem wdX12_needed_5 : decode cX12_needed 5 = .ok (.istore_n 1, 1) := dX12_needed_5
theorem wdX12_needed_6 : decode cX12_needed 6 = .ok (.iconst 0, 1) := dX12_needed_6
theorem wdX12_needed_7 : decode cX12_needed 7 = .ok (.istore_n 2, 1) := dX12_needed_7
theorem wdX12_needed_73 : decode cX12_needed 73 = .ok (.iload_n 1, 1) := dX12_needed_73
theorem wdX12_needed_74 : decode cX12_needed 74 = .ok (.ireturn, 1) := dX12_needed_74
set_option maxRecDepth 4000 in
theorem k_needed {l : Launch} {D : va_G} {B : Nat} {cy : Nat → ClassId} {M : Mem} {Ps : Nat → Nat → Int} {mr k q hv ed : Nat} {o : Wo} {Hs : Nat → Fw} (hS : MS M Ps mr (q, hv, ed, o) Hs k) : Ci l D B cy yX12_needed cX12_needed 4 (some .int) 10 233 [.ref (B + 146)] M (fun r M1 => r = zI ((ndF Ps mr (q, hv, ed, o) mr : Nat) : Int)) := by
  refine s_any (by decide) (Nat.le_of_ble_eq_true rfl) ?_
  intro p e s m below meth c ls F hr hlocks w hl
  have F : CallFix p m c cX12_needed 4 s _ TB RX12 := F
  have hx := F.1
  have hb := F.2.1
  have hl : lv_has ls 4 [(0, .ref (B + 146))] := hl
  have hm8 := hS.1.1
  have hk12 := hS.2.2.2.2.1
  have hC : TW M q hv ed o := hS.T
  have hW : isR M 147 o.1 q hv ed o.2.1 o.2.2 := hC.1
  have hwf := hC.wf
  have hKL := hwf.2.2.2.2
  have hn12 := hwf.1
  have hq12 := hwf.2.1
  have hhv := hwf.2.2.1
  have hed := hwf.2.2.2.1
  have hokm : okW q (sg9 Ps (q, hv, ed, o) mr) := (dvF_l lkB.rf lkB.rf hC.2.1 mr (fun j hj => (hS.1.2 j hj).2)).2
  have hnl := nd_le (Ps := Ps) (m := mr) (x := (q, hv, ed, o)) (r := mr) (by omega)
  refine lv_aload_n hx hb wdX12_needed_0 rfl (lv_at hl 0 rfl) ?_
  refine k_Vv F w (As := []) (rest := []) (a := 146) (kd_lt (a := 146) (show kd 146 = (12, 0, 0) from rfl) (by decide)) (sh_12 rfl _ _) rfl (k_laysDue hS) wgv_X12_303 whv_X12_laysDue ⟨(Nat.le_of_ble_eq_true rfl), (Nat.le_of_ble_eq_true rfl)⟩ hl.1 rfl (Nat.le_of_ble_eq_true rfl) ⟨Nat.zero_le _, Nat.zero_le _⟩ wdX12_needed_1 (fun Ma1 H locs hp w => ?_)
  rcases hp with ⟨hD1, hS1⟩
  have hW9 := hS1.2.2.1
  have hT1 : TW Ma1 q hv ed o := hS1.T
  refine lv_iconst (v := zI 0) hx hb wdX12_needed_4 rfl ?_
  refine lv_istore_n (lv' := [(1, .int (zI 0)), (0, .ref (B + 146))]) hx hb wdX12_needed_5 rfl hl (by decide) rfl (fun ls hl => ?_)
  refine lv_iconst (v := zI 0) hx hb wdX12_needed_6 rfl ?_
  refine lv_istore_n (lv' := [(2, .int (zI 0)), (1, .int (zI 0)), (0, .ref (B + 146))]) hx hb wdX12_needed_7 rfl hl (by decide) rfl (fun ls hl => ?_)
  refine lp_X12_needed (M := M) F (Nat.le_of_ble_eq_true rfl) (Nat.le_of_ble_eq_true rfl) hm8 hokm (fun w9 Nm H locs ls x0 w hl => ?_) mr 0 Ma1 (by omega) hS1 hD1 (by omega) _ _ ls w (lv_sub hl [0, 1, 2] rfl)
  rw [x0] at hl
  refine lv_iload_n hx hb wdX12_needed_73 rfl (lv_at hl 0 rfl) ?_
  exact e_i F w hr hlocks rfl wdX12_needed_74
