theorem wdX12_reading_7 : decode cX12_reading 7 = .ok (.iload 4, 2) := dX12_reading_7
theorem wdX12_reading_9 : decode cX12_reading 9 = .ok (.aload_n 0, 1) := dX12_reading_9
theorem wdX12_reading_10 : decode cX12_reading 10 = .ok (.getfield 17, 3) := dX12_reading_10
theorem wdX12_reading_13 : decode cX12_reading 13 = .ok (.iconst 0, 1) := dX12_reading_13
theorem wdX12_reading_14 : decode cX12_reading 14 = .ok (.iaload, 1) := dX12_reading_14
theorem wdX12_reading_15 : decode cX12_reading 15 = .ok (.if_icmp .ge 49, 3) := dX12_reading_15
theorem wdX12_reading_18 : decode cX12_reading 18 = .ok (.aload_n 0, 1) := dX12_reading_18
theorem wdX12_reading_19 : decode cX12_reading 19 = .ok (.getfield 17, 3) := dX12_reading_19
theorem wdX12_reading_22 : decode cX12_reading 22 = .ok (.bipush 13, 2) := dX12_reading_22
theorem wdX12_reading_24 : decode cX12_reading 24 = .ok (.iload 4, 2) := dX12_reading_24
theorem wdX12_reading_26 : decode cX12_reading 26 = .ok (.iadd, 1) := dX12_reading_26
theorem wdX12_reading_27 : decode cX12_reading 27 = .ok (.iaload, 1) := dX12_reading_27
theorem wdX12_reading_28 : decode cX12_reading 28 = .ok (.iload_n 1, 1) := dX12_reading_28
theorem wdX12_reading_29 : decode cX12_reading 29 = .ok (.invokestatic 51, 3) := dX12_reading_29
theorem wdX12_reading_32 : decode cX12_reading 32 = .ok (.ifCond .ne 6, 3) := dX12_reading_32
theorem wdX12_reading_38 : decode cX12_reading 38 = .ok (.iload_n 2, 1) := dX12_reading_38
theorem wdX12_reading_39 : decode cX12_reading 39 = .ok (.iload_n 3, 1) := dX12_reading_39
theorem wdX12_reading_40 : decode cX12_reading 40 = .ok (.aload_n 0, 1) := dX12_reading_40
theorem wdX12_reading_41 : decode cX12_reading 41 = .ok (.getfield 17, 3) := dX12_reading_41
theorem wdX12_reading_44 : decode cX12_reading 44 = .ok (.iconst 1, 1) := dX12_reading_44
theorem wdX12_reading_45 : decode cX12_reading 45 = .ok (.iload 4, 2) := dX12_reading_45
theorem wdX12_reading_47 : decode cX12_reading 47 = .ok (.iadd, 1) := dX12_reading_47
theorem wdX12_reading_48 : decode cX12_reading 48 = .ok (.iaload, 1) := dX12_reading_48
theorem wdX12_reading_49 : decode cX12_reading 49 = .ok (.iconst 1, 1) := dX12_reading_49
theorem wdX12_reading_50 : decode cX12_reading 50 = .ok (.iadd, 1) := dX12_reading_50
theorem wdX12_reading_51 : decode cX12_reading 51 = .ok (.imul, 1) := dX12_reading_51
theorem wdX12_reading_52 : decode cX12_reading 52 = .ok (.iadd, 1) := dX12_reading_52
theorem wdX12_reading_53 : decode cX12_reading 53 = .ok (.istore_n 2, 1) := dX12_reading_53
theorem wdX12_reading_54 : decode cX12_reading 54 = .ok (.iload_n 3, 1) := dX12_reading_54
theorem wdX12_reading_55 : decode cX12_reading 55 = .ok (.iconst 4, 1) := dX12_reading_55
theorem wdX12_reading_56 : decode cX12_reading 56 = .ok (.imul, 1) := dX12_reading_56
theorem wdX12_reading_57 : decode cX12_reading 57 = .ok (.istore_n 3, 1) := dX12_reading_57
theorem wdX12_reading_58 : decode cX12_reading 58 = .ok (.iinc 4 1, 3) := dX12_reading_58
theorem wdX12_reading_61 : decode cX12_reading 61 = .ok (.goto (-54), 3) := dX12_reading_61
theorem wdX12_reading_35 : decode cX12_reading 35 = .ok (.goto 23, 3) := dX12_reading_35
set_option maxRecDepth 4000 in
theorem lp_X12_reading {p : Program} {l : Launch} {e : Env} {s : State} {m : MethodId} {args : Array Value} {below : List Frame} {meth : Method} {c : Code} {D : va_G} {B : Nat} {cy : Nat → ClassId} {H0 : Heap} {Q : State → Prop} {M : Mem} {R : Room} {q hv ed j9 : Nat} {o : Wo} {z9 : Int} (F : CallFix p m c cX12_reading 5 s args TB RX12) (hR1 : 1 ≤ R.frames) (hR2 : 21 ≤ R.locals) (hR : RW M q hv ed o z9) (hj9 : j9 < 12) (kk : ∀ (t : Nat) (al : Nat) (by9 : Nat) (H : Heap) (locs : List Loc) (ls : Array Slot), (al = rdW9 o j9) → Wd D B cy s H0 M H locs → lv_has ls 5 [(2, .int (zI (al : Int)))] → W p l e R s m args below meth c H locs 0 0 Q (F0 m 64 ls [])) : ∀ (f : Nat) (t : Nat) (al : Nat) (by9 : Nat), (t ≤ o.1) → (rdI9 o.2.1 o.2.2 j9 o.1 t al by9) → (o.1 ≤ t + f) → ∀ (H : Heap) (locs : List Loc) (ls : Array Slot), Wd D B cy s H0 M H locs → lv_has ls 5 [(4, .int (zI (t : Int))), (3, .int (zI (by9 : Int))), (2, .int (zI (al : Int))), (0, .ref (B + 146)), (1, .int (zI (j9 : Int)))] → W p l e R s m args below meth c H locs 0 0 Q (F0 m 7 ls []) := by
  have hx := F.1
  have hb := F.2.1
  have hW := hR.1
  have hwf := hR.wf
  have hKL := hwf.2.2.2.2
  have hn12 := hwf.1
  have hq12 := hwf.2.1
  have hhv := hwf.2.2.1
  have hed := hwf.2.2.2.1
  have hc := hR.2.2.2.2
  intro f
  induction f with
  | zero =>
    intro t al by9 i0 i1 hf H locs ls w hl
    have hrb := rdI_b i1 hn12 i0 (fun j hj => (hKL j hj).1)
    refine lv_iload hx hb wdX12_reading_7 (lv_at hl 0 rfl) ?_
    refine lv_aload_n hx hb wdX12_reading_9 rfl (lv_at hl 3 rfl) ?_
    refine f_12_2 F w (a := 146) rfl wtb_102 wdX12_reading_10 ?_
    refine lv_iconst (v := zI 0) hx hb wdX12_reading_13 rfl ?_
    refine g_iald F w (a := 148) rfl (j := 0) ⟨by decide, by decide⟩ (by omega) wdX12_reading_14 ?_
    refine r_val (v := (zI ((o.1 : Nat) : Int))) (hW.1) ?_
    refine z_icmp_ge (tgt := 64) hx hb (by omega) (by omega) wdX12_reading_15 (by decide) (fun c1 => ?_) (fun c1 => False.elim (by omega))
    exact kk t al by9 _ _ ls (rdI_e (by rw [show t = o.1 by omega] at i1; exact i1)) w (lv_sub hl [2] rfl)
  | succ f ih =>
    intro t al by9 i0 i1 hf H locs ls w hl
    have hrb := rdI_b i1 hn12 i0 (fun j hj => (hKL j hj).1)
    refine lv_iload hx hb wdX12_reading_7 (lv_at hl 0 rfl) ?_
    refine lv_aload_n hx hb wdX12_reading_9 rfl (lv_at hl 3 rfl) ?_
    refine f_12_2 F w (a := 146) rfl wtb_102 wdX12_reading_10 ?_
    refine lv_iconst (v := zI 0) hx hb wdX12_reading_13 rfl ?_
    refine g_iald F w (a := 148) rfl (j := 0) ⟨by decide, by decide⟩ (by omega) wdX12_reading_14 ?_
    refine r_val (v := (zI ((o.1 : Nat) : Int))) (hW.1) ?_
    refine z_icmp_ge (tgt := 64) hx hb (by omega) (by omega) wdX12_reading_15 (by decide) (fun c1 => ?_) (fun c1 => ?_)
    · exact kk t al by9 _ _ ls (rdI_e (by rw [show t = o.1 by omega] at i1; exact i1)) w (lv_sub hl [2] rfl)
    · refine lv_aload_n hx hb wdX12_reading_18 rfl (lv_at hl 3 rfl) ?_
      refine f_12_2 F w (a := 146) rfl wtb_102 wdX12_reading_19 ?_
      refine lv_bipush (v := zI 13) hx hb wdX12_reading_22 (by decide) ?_
      refine lv_iload hx hb wdX12_reading_24 (lv_at hl 0 rfl) ?_
      refine z_iadd (z := (((13 + t) : Nat) : Int)) hx hb wdX12_reading_26 (by omega) ?_
      refine g_iald F w (a := 148) rfl (j := (13 + t)) (ix_n (by omega)) (by omega) wdX12_reading_27 ?_
      have hL1 := (hKL t (by omega)).2
      refine r_val (v := (zI (((o.2.2 t) : Nat) : Int))) (hW.2.2.2.2.2 t (by omega)) ?_
      refine lv_iload_n hx hb wdX12_reading_28 rfl (lv_at hl 4 rfl) ?_
      refine k_Si F w (As := [.int (zI (((o.2.2 t) : Nat) : Int)), .int (zI (j9 : Int))]) (rest := []) (s_X12_isIn (m9 := (o.2.2 t)) (k := j9) (by omega) (by omega)) wgs_X12_51 whs_X12_isIn ⟨(by omega), (by omega)⟩ hl.1 rfl (Nat.le_of_ble_eq_true rfl) ⟨Nat.zero_le _, Nat.zero_le _⟩ wdX12_reading_29 (fun r Ma3 H locs hp w => ?_)
      rcases hp with ⟨⟨hb2, rfl⟩ | ⟨hb2, rfl⟩, hMe⟩
      · rw [hMe] at w
        refine z_if_ne (tgt := 38) hx hb (by omega) wdX12_reading_32 (by decide) (fun c4 => ?_) (fun c4 => False.elim (by omega))
        refine lv_iload_n hx hb wdX12_reading_38 rfl (lv_at hl 2 rfl) ?_
        refine lv_iload_n hx hb wdX12_reading_39 rfl (lv_at hl 1 rfl) ?_
        refine lv_aload_n hx hb wdX12_reading_40 rfl (lv_at hl 3 rfl) ?_
        refine f_12_2 F w (a := 146) rfl wtb_102 wdX12_reading_41 ?_
        refine lv_iconst (v := zI 1) hx hb wdX12_reading_44 rfl ?_
        refine lv_iload hx hb wdX12_reading_45 (lv_at hl 0 rfl) ?_
        refine z_iadd (z := (((1 + t) : Nat) : Int)) hx hb wdX12_reading_47 (by omega) ?_
        refine g_iald F w (a := 148) rfl (j := (1 + t)) (ix_n (by omega)) (by omega) wdX12_reading_48 ?_
        have hK4 := (hKL t (by omega)).1
        refine r_val (v := (zI (((o.2.1 t) : Nat) : Int))) (hW.2.2.2.2.1 t (by omega)) ?_
        refine lv_iconst (v := zI 1) hx hb wdX12_reading_49 rfl ?_
        refine z_iadd (z := ((((o.2.1 t) + 1) : Nat) : Int)) hx hb wdX12_reading_50 (by omega) ?_
        refine lv_imul hx hb wdX12_reading_51 ?_
        obtain ⟨pv, hpv⟩ : ∃ pv : Nat, pv = by9 * (o.2.1 t + 1) := ⟨_, rfl⟩
        have hpb := hrb.2.2 pv hpv (by omega)
        refine r_val (v := zI (pv : Int)) (mul_zz (a := by9) (b := o.2.1 t + 1) (congrArg _ hpv)) ?_
        refine z_iadd (z := (((al + pv) : Nat) : Int)) hx hb wdX12_reading_52 (by omega) ?_
        refine lv_istore_n (lv' := [(2, .int (zI (((al + pv) : Nat) : Int))), (4, .int (zI (t : Int))), (3, .int (zI (by9 : Int))), (0, .ref (B + 146)), (1, .int (zI (j9 : Int)))]) hx hb wdX12_reading_53 rfl hl (by decide) rfl (fun ls hl => ?_)
        refine lv_iload_n hx hb wdX12_reading_54 rfl (lv_at hl 2 rfl) ?_
        refine lv_iconst (v := zI 4) hx hb wdX12_reading_55 rfl ?_
        refine z_imul (z := (((by9 * 4) : Nat) : Int)) hx hb wdX12_reading_56 (by omega) ?_
        refine lv_istore_n (lv' := [(3, .int (zI (((by9 * 4) : Nat) : Int))), (2, .int (zI (((al + pv) : Nat) : Int))), (4, .int (zI (t : Int))), (0, .ref (B + 146)), (1, .int (zI (j9 : Int)))]) hx hb wdX12_reading_57 rfl hl (by decide) rfl (fun ls hl => ?_)
        refine z_iinc (v := (((t + 1) : Nat) : Int)) (lv' := [(4, .int (zI (((t + 1) : Nat) : Int))), (3, .int (zI (((by9 * 4) : Nat) : Int))), (2, .int (zI (((al + pv) : Nat) : Int))), (0, .ref (B + 146)), (1, .int (zI (j9 : Int)))]) hx hb wdX12_reading_58 hl (k := 2) rfl (by omega) (by decide) rfl (fun ls hl => ?_)
        refine lv_goto (tgt := 7) hx hb wdX12_reading_61 (by decide) ?_
        exact ih (t + 1) (al + pv) (by9 * 4) (by omega) (rdI9_y i1 (by omega) hb2 hpv) (by omega) _ _ ls w (lv_sub hl [0, 1, 2, 3, 4] rfl)
      · rw [hMe] at w
        refine z_if_ne (tgt := 38) hx hb (by omega) wdX12_reading_32 (by decide) (fun c5 => False.elim (by omega)) (fun c5 => ?_)
        refine lv_goto (tgt := 58) hx hb wdX12_reading_35 (by decide) ?_
        refine z_iinc (v := (((t + 1) : Nat) : Int)) (lv' := [(4, .int (zI (((t + 1) : Nat) : Int))), (3, .int (zI (by9 : Int))), (2, .int (zI (al : Int))), (0, .ref (B + 146)), (1, .int (zI (j9 : Int)))]) hx hb wdX12_reading_58 hl (k := 0) rfl (by omega) (by decide) rfl (fun ls hl => ?_)
        refine lv_goto (tgt := 7) hx hb wdX12_reading_61 (by decide) ?_
        exact ih (t + 1) al by9 (by omega) (rdI9_n i1 (by omega) hb2) (by omega) _ _ ls w (lv_sub hl [0, 1, 2, 3, 4] rfl)
theorem wdX12_reading_0 : decode cX12_reading 0 = .ok (.iconst 0, 1) := dX12_reading_0
theorem wdX12_reading_1 : decode cX12_reading 1 = .ok (.istore_n 2, 1) := dX12_reading_1
theorem wdX12_reading_2 : decode cX12_reading 2 = .ok (.iconst 1, 1) := dX12_reading_2
theorem wdX12_reading_3 : decode cX12_reading 3 = .ok (.istore_n 3, 1) := dX12_reading_3
theorem wdX12_reading_4 : decode cX12_reading 4 = .ok (.iconst 0, 1) := dX12_reading_4
theorem wdX12_reading_5 : decode cX12_reading 5 = .ok (.istore 4, 2) := dX12_reading_5
theorem wdX12_reading_64 : decode cX12_reading 64 = .ok (.iload_n 2, 1) := dX12_reading_64
theorem wdX12_reading_65 : decode cX12_reading 65 = .ok (.ireturn, 1) := dX12_reading_65
set_option maxRecDepth 4000 in
theorem k_reading {l : Launch} {D : va_G} {B : Nat} {cy : Nat → ClassId} {M : Mem} {q hv ed : Nat} {o : Wo} {z9 : Int} (hR : RW M q hv ed o z9) {j9 : Nat} (hj9 : j9 < 12) : Ci l D B cy yX12_reading cX12_reading 5 (some .int) 1 21 [.ref (B + 146), .int (zI (j9 : Int))] M (fun r M1 => r = zI ((rdW9 o j9 : Nat) : Int) ∧ M1 = M) := by
  refine s_any (by decide) (Nat.le_of_ble_eq_true rfl) ?_
  intro p e s m below meth c ls F hr hlocks w hl
  have F : CallFix p m c cX12_reading 5 s _ TB RX12 := F
  have hx := F.1
  have hb := F.2.1
  have hl : lv_has ls 5 [(0, .ref (B + 146)), (1, .int (zI (j9 : Int)))] := hl
  have hW := hR.1
  have hwf := hR.wf
  have hKL := hwf.2.2.2.2
  have hn12 := hwf.1
  have hq12 := hwf.2.1
  have hhv := hwf.2.2.1
  have hed := hwf.2.2.2.1
  have hc := hR.2.2.2.2
  have hrw := rdW_b (s := j9) hR.2.1
  refine lv_iconst (v := zI 0) hx hb wdX12_reading_0 rfl ?_
  refine lv_istore_n (lv' := [(2, .int (zI 0)), (0, .ref (B + 146)), (1, .int (zI (j9 : Int)))]) hx hb wdX12_reading_1 rfl hl (by decide) rfl (fun ls hl => ?_)
  refine lv_iconst (v := zI 1) hx hb wdX12_reading_2 rfl ?_
  refine lv_istore_n (lv' := [(3, .int (zI 1)), (2, .int (zI 0)), (0, .ref (B + 146)), (1, .int (zI (j9 : Int)))]) hx hb wdX12_reading_3 rfl hl (by decide) rfl (fun ls hl => ?_)
  refine lv_iconst (v := zI 0) hx hb wdX12_reading_4 rfl ?_
  refine lv_istore (lv' := [(4, .int (zI 0)), (3, .int (zI 1)), (2, .int (zI 0)), (0, .ref (B + 146)), (1, .int (zI (j9 : Int)))]) hx hb wdX12_reading_5 hl (by decide) rfl (fun ls hl => ?_)
  refine lp_X12_reading  F (Nat.le_of_ble_eq_true rfl) (Nat.le_of_ble_eq_true rfl) hR hj9 (fun t al by9 H locs ls x0 w hl => ?_) o.1 0 0 1 (by omega) rdI_0 (by omega) _ _ ls w (lv_sub hl [0, 1, 2, 3, 4] rfl)
  rw [x0] at hl
  refine lv_iload_n hx hb wdX12_reading_64 rfl (lv_at hl 0 rfl) ?_
  exact e_i F w hr hlocks ⟨rfl, rfl⟩ wdX12_reading_65
theorem wtk_X12_reading : Cond.code yX12_reading cX12_reading 5 (some .int) ∈ TB := tk_X12_reading
theorem wgc_X12_reading : GoodIn TB (cw yX12_reading cX12_reading 5 (some .int)) := goodIn_c2 wtk_X12_reading
theorem wtb_363 : Cond.methodLink "ToneLinesModel" 288 yX12_reading ∈ TB := tb_637
theorem wtb_364 : Cond.instanceMethod yX12_reading ∈ TB := tb_638
theorem wtb_365 : Cond.selects "ToneLinesModel" yX12_reading yX12_reading ∈ TB := tb_639
theorem wgv_X12_288 : GoodIn TB (wsV RX12 288 RX12 yX12_reading (cw yX12_reading cX12_reading 5 (some .int))) := goodIn_4 wtb_363 wtb_364 wtb_365 wtb_105 wgc_X12_reading
theorem whv_X12_reading : yX12_reading.cls = RX12 ∧ yX12_reading.cls ≠ "java/lang/invoke/MethodHandle" ∧ yX12_reading.cls ≠ "java/lang/invoke/VarHandle" ∧ (parseMethodDescriptor yX12_reading.desc).map (fun d => d.parameters.length) = some 1 := hv_X12_reading
