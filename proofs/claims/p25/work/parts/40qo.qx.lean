theorem wdX12_exchanged_33 : decode cX12_exchanged 33 = .ok (.iload_n 2, 1) := dX12_exchanged_33
theorem wdX12_exchanged_34 : decode cX12_exchanged 34 = .ok (.aload_n 0, 1) := dX12_exchanged_34
theorem wdX12_exchanged_35 : decode cX12_exchanged 35 = .ok (.getfield 239, 3) := dX12_exchanged_35
theorem wdX12_exchanged_38 : decode cX12_exchanged 38 = .ok (.if_icmp .ge 37, 3) := dX12_exchanged_38
theorem wdX12_exchanged_41 : decode cX12_exchanged 41 = .ok (.aload_n 0, 1) := dX12_exchanged_41
theorem wdX12_exchanged_42 : decode cX12_exchanged 42 = .ok (.iload_n 2, 1) := dX12_exchanged_42
theorem wdX12_exchanged_43 : decode cX12_exchanged 43 = .ok (.iload_n 1, 1) := dX12_exchanged_43
theorem wdX12_exchanged_44 : decode cX12_exchanged 44 = .ok (.if_icmp .ne 9, 3) := dX12_exchanged_44
theorem wdX12_exchanged_53 : decode cX12_exchanged 53 = .ok (.iload_n 2, 1) := dX12_exchanged_53
theorem wdX12_exchanged_54 : decode cX12_exchanged 54 = .ok (.iload_n 1, 1) := dX12_exchanged_54
theorem wdX12_exchanged_55 : decode cX12_exchanged 55 = .ok (.iconst 1, 1) := dX12_exchanged_55
theorem wdX12_exchanged_56 : decode cX12_exchanged 56 = .ok (.iadd, 1) := dX12_exchanged_56
theorem wdX12_exchanged_57 : decode cX12_exchanged 57 = .ok (.if_icmp .ne 7, 3) := dX12_exchanged_57
theorem wdX12_exchanged_64 : decode cX12_exchanged 64 = .ok (.iload_n 2, 1) := dX12_exchanged_64
theorem wdX12_exchanged_65 : decode cX12_exchanged 65 = .ok (.invokevirtual 166, 3) := dX12_exchanged_65
theorem wdX12_exchanged_68 : decode cX12_exchanged 68 = .ok (.pop, 1) := dX12_exchanged_68
theorem wdX12_exchanged_69 : decode cX12_exchanged 69 = .ok (.iinc 2 1, 3) := dX12_exchanged_69
theorem wdX12_exchanged_72 : decode cX12_exchanged 72 = .ok (.goto (-39), 3) := dX12_exchanged_72
theorem wdX12_exchanged_60 : decode cX12_exchanged 60 = .ok (.iload_n 1, 1) := dX12_exchanged_60
theorem wdX12_exchanged_61 : decode cX12_exchanged 61 = .ok (.goto 4, 3) := dX12_exchanged_61
theorem wdX12_exchanged_47 : decode cX12_exchanged 47 = .ok (.iload_n 1, 1) := dX12_exchanged_47
theorem wdX12_exchanged_48 : decode cX12_exchanged 48 = .ok (.iconst 1, 1) := dX12_exchanged_48
theorem wdX12_exchanged_49 : decode cX12_exchanged 49 = .ok (.iadd, 1) := dX12_exchanged_49
theorem wdX12_exchanged_50 : decode cX12_exchanged 50 = .ok (.goto 15, 3) := dX12_exchanged_50
set_option maxRecDepth 4000 in
theorem lp_X12_exchanged {p : Program} {l : Launch} {e : Env} {s : State} {m : MethodId} {args : Array Value} {below : List Frame} {meth : Method} {c : Code} {D : va_G} {B : Nat} {cy : Nat → ClassId} {H0 : Heap} {Q : State → Prop} {M : Mem} {R : Room} {Ps : Nat → Nat → Int} {mr k q hv ed rn : Nat} {o : Wo} {Hs : Nat → Fw} (F : CallFix p m c cX12_exchanged 3 s args TB RX12) (hR1 : 8 ≤ R.frames) (hR2 : 189 ≤ R.locals) (hm8 : mr ≤ 8) (hrn : rn + 1 < mr) (kk : ∀ (k9 : Nat) (z : Int) (Nm : Mem) (H : Heap) (locs : List Loc) (ls : Array Slot), (RW Nm q hv ed (swW Ps q hv ed (exq rn) mr o) z) → (isDu Nm q (sg9 Ps (q, hv, ed, o) mr)) → Wd D B cy s H0 Nm H locs → lv_has ls 3 [(0, .ref (B + 146))] → W p l e R s m args below meth c H locs 0 0 Q (F0 m 75 ls [])) : ∀ (f : Nat) (k9 : Nat) (z : Int) (Nm : Mem), (k9 ≤ mr) → (RW Nm q hv ed (swW Ps q hv ed (exq rn) k9 o) z) → (MS Nm Ps mr (q, hv, ed, o) Hs k) → (isDu Nm q (sg9 Ps (q, hv, ed, o) mr)) → (mr ≤ k9 + f) → ∀ (H : Heap) (locs : List Loc) (ls : Array Slot), Wd D B cy s H0 Nm H locs → lv_has ls 3 [(2, .int (zI (k9 : Int))), (0, .ref (B + 146)), (1, .int (zI (rn : Int)))] → W p l e R s m args below meth c H locs 0 0 Q (F0 m 33 ls []) := by
  have hx := F.1
  have hb := F.2.1
  intro f
  induction f with
  | zero =>
    intro k9 z Nm i0 i1 i2 i3 hf H locs ls w hl
    refine lv_iload_n hx hb wdX12_exchanged_33 rfl (lv_at hl 0 rfl) ?_
    refine lv_aload_n hx hb wdX12_exchanged_34 rfl (lv_at hl 1 rfl) ?_
    refine f_12_5 F w (a := 146) rfl wtb_291 wdX12_exchanged_35 ?_
    refine r_val (v := (zI (mr : Int))) (i2.2.1) ?_
    refine z_icmp_ge (tgt := 75) hx hb (by omega) (by omega) wdX12_exchanged_38 (by decide) (fun c1 => ?_) (fun c1 => False.elim (by omega))
    exact kk k9 z Nm _ _ ls (by have h9 := i1; rw [show k9 = mr by omega] at h9; exact h9) i3 w (lv_sub hl [1] rfl)
  | succ f ih =>
    intro k9 z Nm i0 i1 i2 i3 hf H locs ls w hl
    refine lv_iload_n hx hb wdX12_exchanged_33 rfl (lv_at hl 0 rfl) ?_
    refine lv_aload_n hx hb wdX12_exchanged_34 rfl (lv_at hl 1 rfl) ?_
    refine f_12_5 F w (a := 146) rfl wtb_291 wdX12_exchanged_35 ?_
    refine r_val (v := (zI (mr : Int))) (i2.2.1) ?_
    refine z_icmp_ge (tgt := 75) hx hb (by omega) (by omega) wdX12_exchanged_38 (by decide) (fun c1 => ?_) (fun c1 => ?_)
    · exact kk k9 z Nm _ _ ls (by have h9 := i1; rw [show k9 = mr by omega] at h9; exact h9) i3 w (lv_sub hl [1] rfl)
    · refine lv_aload_n hx hb wdX12_exchanged_41 rfl (lv_at hl 1 rfl) ?_
      refine lv_iload_n hx hb wdX12_exchanged_42 rfl (lv_at hl 0 rfl) ?_
      refine lv_iload_n hx hb wdX12_exchanged_43 rfl (lv_at hl 2 rfl) ?_
      refine z_icmp_ne (tgt := 53) hx hb (by omega) (by omega) wdX12_exchanged_44 (by decide) (fun c2 => ?_) (fun c2 => ?_)
      · refine lv_iload_n hx hb wdX12_exchanged_53 rfl (lv_at hl 0 rfl) ?_
        refine lv_iload_n hx hb wdX12_exchanged_54 rfl (lv_at hl 2 rfl) ?_
        refine lv_iconst (v := zI 1) hx hb wdX12_exchanged_55 rfl ?_
        refine z_iadd (z := (((rn + 1) : Nat) : Int)) hx hb wdX12_exchanged_56 (by omega) ?_
        refine z_icmp_ne (tgt := 64) hx hb (by omega) (by omega) wdX12_exchanged_57 (by decide) (fun c3 => ?_) (fun c3 => ?_)
        · refine lv_iload_n hx hb wdX12_exchanged_64 rfl (lv_at hl 0 rfl) ?_
          refine k_Vi F w (As := [.int (zI (k9 : Int))]) (rest := []) (a := 146) (kd_lt (a := 146) (show kd 146 = (12, 0, 0) from rfl) (by decide)) (sh_12 rfl _ _) rfl (s_X12_works i1 (r := k9) (by omega) (i2.1.2 k9 (by omega)).1 (i2.1.2 k9 (by omega)).2) wgv_X12_166 whv_X12_works ⟨(by omega), (by omega)⟩ hl.1 rfl (Nat.le_of_ble_eq_true rfl) ⟨Nat.zero_le _, Nat.zero_le _⟩ wdX12_exchanged_65 (fun r Ma4 H locs hp w => ?_)
          rcases hp with ⟨oU, dU, pU, eU, rfl, ⟨zU, hRU⟩, hFU, hpU, hdU, hp20⟩
          have hSU := i2.fw hFU
          refine lv_pop hx hb wdX12_exchanged_68 rfl ?_
          refine z_iinc (v := (((k9 + 1) : Nat) : Int)) (lv' := [(2, .int (zI (((k9 + 1) : Nat) : Int))), (0, .ref (B + 146)), (1, .int (zI (rn : Int)))]) hx hb wdX12_exchanged_69 hl (k := 0) rfl (by omega) (by decide) rfl (fun ls hl => ?_)
          refine lv_goto (tgt := 33) hx hb wdX12_exchanged_72 (by decide) ?_
          exact ih (k9 + 1) zU Ma4 (by omega) (by rw [swW, exq_n (by omega) (by omega), eU]; exact hRU) hSU (i3.fr (hFU.1 157 (by decide) (by decide))) (by omega) _ _ ls w (lv_sub hl [0, 1, 2] rfl)
        · refine lv_iload_n hx hb wdX12_exchanged_60 rfl (lv_at hl 2 rfl) ?_
          refine lv_goto (tgt := 65) hx hb wdX12_exchanged_61 (by decide) ?_
          refine k_Vi F w (As := [.int (zI (rn : Int))]) (rest := []) (a := 146) (kd_lt (a := 146) (show kd 146 = (12, 0, 0) from rfl) (by decide)) (sh_12 rfl _ _) rfl (s_X12_works i1 (r := rn) (by omega) (i2.1.2 rn (by omega)).1 (i2.1.2 rn (by omega)).2) wgv_X12_166 whv_X12_works ⟨(by omega), (by omega)⟩ hl.1 rfl (Nat.le_of_ble_eq_true rfl) ⟨Nat.zero_le _, Nat.zero_le _⟩ wdX12_exchanged_65 (fun r Ma5 H locs hp w => ?_)
          rcases hp with ⟨oU, dU, pU, eU, rfl, ⟨zU, hRU⟩, hFU, hpU, hdU, hp20⟩
          have hSU := i2.fw hFU
          refine lv_pop hx hb wdX12_exchanged_68 rfl ?_
          refine z_iinc (v := (((k9 + 1) : Nat) : Int)) (lv' := [(2, .int (zI (((k9 + 1) : Nat) : Int))), (0, .ref (B + 146)), (1, .int (zI (rn : Int)))]) hx hb wdX12_exchanged_69 hl (k := 0) rfl (by omega) (by decide) rfl (fun ls hl => ?_)
          refine lv_goto (tgt := 33) hx hb wdX12_exchanged_72 (by decide) ?_
          exact ih (k9 + 1) zU Ma5 (by omega) (by rw [swW, exq_1 (by omega), eU]; exact hRU) hSU (i3.fr (hFU.1 157 (by decide) (by decide))) (by omega) _ _ ls w (lv_sub hl [0, 1, 2] rfl)
      · refine lv_iload_n hx hb wdX12_exchanged_47 rfl (lv_at hl 2 rfl) ?_
        refine lv_iconst (v := zI 1) hx hb wdX12_exchanged_48 rfl ?_
        refine z_iadd (z := (((rn + 1) : Nat) : Int)) hx hb wdX12_exchanged_49 (by omega) ?_
        refine lv_goto (tgt := 65) hx hb wdX12_exchanged_50 (by decide) ?_
        refine k_Vi F w (As := [.int (zI (((rn + 1) : Nat) : Int))]) (rest := []) (a := 146) (kd_lt (a := 146) (show kd 146 = (12, 0, 0) from rfl) (by decide)) (sh_12 rfl _ _) rfl (s_X12_works i1 (r := (rn + 1)) (by omega) (i2.1.2 (rn + 1) (by omega)).1 (i2.1.2 (rn + 1) (by omega)).2) wgv_X12_166 whv_X12_works ⟨(by omega), (by omega)⟩ hl.1 rfl (Nat.le_of_ble_eq_true rfl) ⟨Nat.zero_le _, Nat.zero_le _⟩ wdX12_exchanged_65 (fun r Ma6 H locs hp w => ?_)
        rcases hp with ⟨oU, dU, pU, eU, rfl, ⟨zU, hRU⟩, hFU, hpU, hdU, hp20⟩
        have hSU := i2.fw hFU
        refine lv_pop hx hb wdX12_exchanged_68 rfl ?_
        refine z_iinc (v := (((k9 + 1) : Nat) : Int)) (lv' := [(2, .int (zI (((k9 + 1) : Nat) : Int))), (0, .ref (B + 146)), (1, .int (zI (rn : Int)))]) hx hb wdX12_exchanged_69 hl (k := 0) rfl (by omega) (by decide) rfl (fun ls hl => ?_)
        refine lv_goto (tgt := 33) hx hb wdX12_exchanged_72 (by decide) ?_
        exact ih (k9 + 1) zU Ma6 (by omega) (by rw [swW, exq_0 (by omega), eU]; exact hRU) hSU (i3.fr (hFU.1 157 (by decide) (by decide))) (by omega) _ _ ls w (lv_sub hl [0, 1, 2] rfl)
theorem wdX12_exchanged_0 : decode cX12_exchanged 0 = .ok (.iload_n 1, 1) := dX12_exchanged_0
theorem wdX12_exchanged_1 : decode cX12_exchanged 1 = .ok (.iconst 0, 1) := dX12_exchanged_1
theorem wdX12_exchanged_2 : decode cX12_exchanged 2 = .ok (.aload_n 0, 1) := dX12_exchanged_2
theorem wdX12_exchanged_3 : decode cX12_exchanged 3 = .ok (.getfield 239, 3) := dX12_exchanged_3
theorem wdX12_exchanged_6 : decode cX12_exchanged 6 = .ok (.iconst 2, 1) := dX12_exchanged_6
theorem wdX12_exchanged_7 : decode cX12_exchanged 7 = .ok (.isub, 1) := dX12_exchanged_7
theorem wdX12_exchanged_8 : decode cX12_exchanged 8 = .ok (.invokestatic 55, 3) := dX12_exchanged_8
theorem wdX12_exchanged_11 : decode cX12_exchanged 11 = .ok (.ifCond .ne 5, 3) := dX12_exchanged_11
theorem wdX12_exchanged_16 : decode cX12_exchanged 16 = .ok (.aload_n 0, 1) := dX12_exchanged_16
theorem wdX12_exchanged_17 : decode cX12_exchanged 17 = .ok (.invokevirtual 303, 3) := dX12_exchanged_17
theorem wtk_X12_laysDue : Cond.code yX12_laysDue cX12_laysDue 2 none ∈ TB := tk_X12_laysDue
theorem wgc_X12_laysDue : GoodIn TB (cw yX12_laysDue cX12_laysDue 2 none) := goodIn_c2 wtk_X12_laysDue
theorem wtb_428 : Cond.methodLink "ToneLinesModel" 303 yX12_laysDue ∈ TB := tb_644
theorem wtb_429 : Cond.instanceMethod yX12_laysDue ∈ TB := tb_645
theorem wtb_430 : Cond.selects "ToneLinesModel" yX12_laysDue yX12_laysDue ∈ TB := tb_646
theorem wgv_X12_303 : GoodIn TB (wsV RX12 303 RX12 yX12_laysDue (cw yX12_laysDue cX12_laysDue 2 none)) := goodIn_4 wtb_428 wtb_429 wtb_430 wtb_105 wgc_X12_laysDue
theorem whv_X12_laysDue : yX12_laysDue.cls = RX12 ∧ yX12_laysDue.cls ≠ "java/lang/invoke/MethodHandle" ∧ yX12_laysDue.cls ≠ "java/lang/invoke/VarHandle" ∧ (parseMethodDescriptor yX12_laysDue.desc).map (fun d => d.parameters.length) = some 0 := hv_X12_laysDue
theorem wdX12_exchanged_20 : decode cX12_exchanged 20 = .ok (.aload_n 0, 1) := dX12_exchanged_20
theorem wdX12_exchanged_21 : decode cX12_exchanged 21 = .ok (.getfield 17, 3) := dX12_exchanged_21
theorem wdX12_exchanged_24 : decode cX12_exchanged 24 = .ok (.aload_n 0, 1) := dX12_exchanged_24
theorem wdX12_exchanged_25 : decode cX12_exchanged 25 = .ok (.getfield 13, 3) := dX12_exchanged_25
theorem wdX12_exchanged_28 : decode cX12_exchanged 28 = .ok (.invokestatic 162, 3) := dX12_exchanged_28
theorem wdX12_exchanged_31 : decode cX12_exchanged 31 = .ok (.iconst 0, 1) := dX12_exchanged_31
theorem wdX12_exchanged_32 : decode cX12_exchanged 32 = .ok (.istore_n 2, 1) := dX12_exchanged_32
theorem wdX12_exchanged_75 : decode cX12_exchanged 75 = .ok (.aload_n 0, 1) := dX12_exchanged_75
theorem wdX12_exchanged_76 : decode cX12_exchanged 76 = .ok (.invokevirtual 306, 3) := dX12_exchanged_76
theorem wtk_X12_isDue : Cond.code yX12_isDue cX12_isDue 2 (some .boolean) ∈ TB := tk_X12_isDue
theorem wgc_X12_isDue : GoodIn TB (cw yX12_isDue cX12_isDue 2 (some .boolean)) := goodIn_c2 wtk_X12_isDue
theorem wtb_431 : Cond.methodLink "ToneLinesModel" 306 yX12_isDue ∈ TB := tb_647
theorem wtb_432 : Cond.instanceMethod yX12_isDue ∈ TB := tb_648
theorem wtb_433 : Cond.selects "ToneLinesModel" yX12_isDue yX12_isDue ∈ TB := tb_649
theorem wgv_X12_306 : GoodIn TB (wsV RX12 306 RX12 yX12_isDue (cw yX12_isDue cX12_isDue 2 (some .boolean))) := goodIn_4 wtb_431 wtb_432 wtb_433 wtb_105 wgc_X12_isDue
theorem whv_X12_isDue : yX12_isDue.cls = RX12 ∧ yX12_isDue.cls ≠ "java/lang/invoke/MethodHandle" ∧ yX12_isDue.cls ≠ "java/lang/invoke/VarHandle" ∧ (parseMethodDescriptor yX12_isDue.desc).map (fun d => d.parameters.length) = some 0 := hv_X12_isDue
theorem wdX12_exchanged_79 : decode cX12_exchanged 79 = .ok (.ifCond .eq 7, 3) := dX12_exchanged_79
theorem wdX12_exchanged_82 : decode cX12_exchanged 82 = .ok (.iconst 0, 1) := dX12_exchanged_82
theorem wdX12_exchanged_83 : decode cX12_exchanged 83 = .ok (.goto 4, 3) := dX12_exchanged_83
theorem wdX12_exchanged_87 : decode cX12_exchanged 87 = .ok (.ireturn, 1) := dX12_exchanged_87
theorem wdX12_exchanged_86 : decode cX12_exchanged 86 = .ok (.iconst 1, 1) := dX12_exchanged_86
theorem wdX12_exchanged_14 : decode cX12_exchanged 14 = .ok (.iconst (-1), 1) := dX12_exchanged_14
theorem wdX12_exchanged_15 : decode cX12_exchanged 15 = .ok (.ireturn, 1) := dX12_exchanged_15
set_option maxRecDepth 4000 in
theorem k_exchanged {l : Launch} {D : va_G} {B : Nat} {cy : Nat → ClassId} {M : Mem} {Ps : Nat → Nat → Int} {mr k q hv ed : Nat} {o : Wo} {Hs : Nat → Fw} (hS : MS M Ps mr (q, hv, ed, o) Hs k) {r9 : Int} (hr9 : rg r9) : Ci l D B cy yX12_exchanged cX12_exchanged 3 (some .int) 10 233 [.ref (B + 146), .int (zI r9)] M (fun r M1 => r = zI (exA9 Ps mr r9 (q, hv, ed, o))) := by
  refine s_any (by decide) (Nat.le_of_ble_eq_true rfl) ?_
  intro p e s m below meth c ls F hr hlocks w hl
  have F : CallFix p m c cX12_exchanged 3 s _ TB RX12 := F
  have hx := F.1
  have hb := F.2.1
  have hl : lv_has ls 3 [(0, .ref (B + 146)), (1, .int (zI r9))] := hl
  have hm8 := hS.1.1
  have hk12 := hS.2.2.2.2.1
  have hC : TW M q hv ed o := hS.T
  have hW : isR M 147 o.1 q hv ed o.2.1 o.2.2 := hC.1
  have hwf := hC.wf
  have hKL := hwf.2.2.2.2
  have hn12 := hwf.1
  have hq12 := hwf.2.1
  have hhv := hwf.2.2.1
  have hed := hwf.2.2.2.1
  have hokm : okW q (sg9 Ps (q, hv, ed, o) mr) := (dvF_l lkB.rf lkB.rf hC.2.1 mr (fun j hj => (hS.1.2 j hj).2)).2
  refine lv_iload_n hx hb wdX12_exchanged_0 rfl (lv_at hl 1 rfl) ?_
  refine lv_iconst (v := zI 0) hx hb wdX12_exchanged_1 rfl ?_
  refine lv_aload_n hx hb wdX12_exchanged_2 rfl (lv_at hl 0 rfl) ?_
  refine f_12_5 F w (a := 146) rfl wtb_291 wdX12_exchanged_3 ?_
  refine r_val (v := (zI (mr : Int))) (hS.2.1) ?_
  refine lv_iconst (v := zI 2) hx hb wdX12_exchanged_6 rfl ?_
  refine z_isub (z := ((mr : Int) - 2)) hx hb wdX12_exchanged_7 (by omega) ?_
  refine k_Si F w (As := [.int (zI r9), .int (zI 0), .int (zI ((mr : Int) - 2))]) (rest := []) (s_X12_in (v := r9) (a := 0) (b := ((mr : Int) - 2)) (by omega) (by omega) (by omega)) wgs_X12_55 whs_X12_in ⟨(Nat.le_of_ble_eq_true rfl), (Nat.le_of_ble_eq_true rfl)⟩ hl.1 rfl (Nat.le_of_ble_eq_true rfl) ⟨Nat.zero_le _, Nat.zero_le _⟩ wdX12_exchanged_8 (fun r Ma2 H locs hp w => ?_)
  rcases hp with ⟨⟨hb1, rfl⟩ | ⟨hb1, rfl⟩, hMe⟩
  · rw [hMe] at w
    refine z_if_ne (tgt := 16) hx hb (by omega) wdX12_exchanged_11 (by decide) (fun c3 => ?_) (fun c3 => False.elim (by omega))
    obtain ⟨rn, rfl⟩ : ∃ n8 : Nat, r9 = (n8 : Int) := ⟨Int.toNat r9, by omega⟩
    refine lv_aload_n hx hb wdX12_exchanged_16 rfl (lv_at hl 0 rfl) ?_
    refine k_Vv F w (As := []) (rest := []) (a := 146) (kd_lt (a := 146) (show kd 146 = (12, 0, 0) from rfl) (by decide)) (sh_12 rfl _ _) rfl (k_laysDue hS) wgv_X12_303 whv_X12_laysDue ⟨(Nat.le_of_ble_eq_true rfl), (Nat.le_of_ble_eq_true rfl)⟩ hl.1 rfl (Nat.le_of_ble_eq_true rfl) ⟨Nat.zero_le _, Nat.zero_le _⟩ wdX12_exchanged_17 (fun Ma4 H locs hp w => ?_)
    rcases hp with ⟨hD1, hS1⟩
    have hW9 := hS1.2.2.1
    have hT1 : TW Ma4 q hv ed o := hS1.T
    refine lv_aload_n hx hb wdX12_exchanged_20 rfl (lv_at hl 0 rfl) ?_
    refine f_12_2 F w (a := 146) rfl wtb_102 wdX12_exchanged_21 ?_
    refine lv_aload_n hx hb wdX12_exchanged_24 rfl (lv_at hl 0 rfl) ?_
    refine f_12_1 F w (a := 146) rfl wtb_179 wdX12_exchanged_25 ?_
    refine k_Sv F w (As := [.ref (B + 148), .ref (B + 147)]) (rest := []) (s_X12_copy (a := 148) (b := 147) rfl rfl (by decide) hT1.1 hT1.wf) wgs_X12_162 whs_X12_copy ⟨(Nat.le_of_ble_eq_true rfl), (Nat.le_of_ble_eq_true rfl)⟩ hl.1 rfl (Nat.le_of_ble_eq_true rfl) ⟨Nat.zero_le _, Nat.zero_le _⟩ wdX12_exchanged_28 (fun Ma5 H locs hp w => ?_)
    rcases hp with ⟨hW2, hF2⟩
    obtain ⟨z9, hR0⟩ := RW.of hW2 hT1
    have hS2 := hS1.fw (FrQ9.of1 hF2)
    have hD2 := hD1.fr (hF2.1 157 (by decide))
    refine lv_iconst (v := zI 0) hx hb wdX12_exchanged_31 rfl ?_
    refine lv_istore_n (lv' := [(2, .int (zI 0)), (0, .ref (B + 146)), (1, .int (zI (rn : Int)))]) hx hb wdX12_exchanged_32 rfl hl (by decide) rfl (fun ls hl => ?_)
    refine lp_X12_exchanged (M := M) F (Nat.le_of_ble_eq_true rfl) (Nat.le_of_ble_eq_true rfl) hm8 (by omega) (fun k9 z Nm H locs ls x0 x1 w hl => ?_) mr 0 z9 Ma5 (by omega) hR0 hS2 hD2 (by omega) _ _ ls w (lv_sub hl [0, 1, 2] rfl)
    refine lv_aload_n hx hb wdX12_exchanged_75 rfl (lv_at hl 0 rfl) ?_
    refine k_Vi F w (As := []) (rest := []) (a := 146) (kd_lt (a := 146) (show kd 146 = (12, 0, 0) from rfl) (by decide)) (sh_12 rfl _ _) rfl (k_isDue x0 x1 hokm) wgv_X12_306 whv_X12_isDue ⟨(Nat.le_of_ble_eq_true rfl), (Nat.le_of_ble_eq_true rfl)⟩ hl.1 rfl (Nat.le_of_ble_eq_true rfl) ⟨Nat.zero_le _, Nat.zero_le _⟩ wdX12_exchanged_76 (fun r Ma6 H locs hp w => ?_)
    rcases hp with ⟨⟨hra, rfl⟩ | ⟨hra, rfl⟩, hMe⟩
    · rw [hMe] at w
      refine z_if_eq (tgt := 86) hx hb (by omega) wdX12_exchanged_79 (by decide) (fun c7 => False.elim (by omega)) (fun c7 => ?_)
      refine lv_iconst (v := zI 0) hx hb wdX12_exchanged_82 rfl ?_
      refine lv_goto (tgt := 87) hx hb wdX12_exchanged_83 (by decide) ?_
      exact e_i F w hr hlocks (congrArg zI ((exA_y (by omega)).trans (congrArg _ (by rw [← ex_sw (show rn + 1 < mr by omega)]; exact yn_0 (fun h9 => h9 hra)))).symm) wdX12_exchanged_87
    · rw [hMe] at w
      refine z_if_eq (tgt := 86) hx hb (by omega) wdX12_exchanged_79 (by decide) (fun c8 => ?_) (fun c8 => False.elim (by omega))
      refine lv_iconst (v := zI 1) hx hb wdX12_exchanged_86 rfl ?_
      exact e_i F w hr hlocks (congrArg zI ((exA_y (by omega)).trans (congrArg _ (by rw [← ex_sw (show rn + 1 < mr by omega)]; exact yn_1 hra))).symm) wdX12_exchanged_87
  · rw [hMe] at w
    refine z_if_ne (tgt := 16) hx hb (by omega) wdX12_exchanged_11 (by decide) (fun c9 => False.elim (by omega)) (fun c9 => ?_)
    refine lv_iconst (v := zI (-1)) hx hb wdX12_exchanged_14 rfl ?_
    exact e_i F w hr hlocks (congrArg zI (exA_n (by omega)).symm) wdX12_exchanged_15
