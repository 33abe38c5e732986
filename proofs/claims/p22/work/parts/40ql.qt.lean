theorem wdX7_write_7 : decode cX7_write 7 = .ok (.iload_n 2, 1) := dX7_write_7
theorem wdX7_write_8 : decode cX7_write 8 = .ok (.aload_n 1, 1) := dX7_write_8
theorem wdX7_write_9 : decode cX7_write 9 = .ok (.getfield 19, 3) := dX7_write_9
theorem wdX7_write_12 : decode cX7_write 12 = .ok (.if_icmp .ge 40, 3) := dX7_write_12
theorem wdX7_write_15 : decode cX7_write 15 = .ok (.aload_n 1, 1) := dX7_write_15
theorem wdX7_write_16 : decode cX7_write 16 = .ok (.iload_n 2, 1) := dX7_write_16
theorem wdX7_write_17 : decode cX7_write 17 = .ok (.invokevirtual 24, 3) := dX7_write_17
theorem wtb_397 : Cond.methodLink "ToneLines$Speller" 24 yX9_kindOf ∈ TB := tb_270
theorem wgv_X7_24 : GoodIn TB (wsV RX7 24 RX9 yX9_kindOf (cw yX9_kindOf cX9_kindOf 2 (some .int))) := goodIn_4 wtb_397 wtb_16 wtb_17 wtb_3 wgc_X9_kindOf
theorem wdX7_write_20 : decode cX7_write 20 = .ok (.istore_n 3, 1) := dX7_write_20
theorem wdX7_write_21 : decode cX7_write 21 = .ok (.aload_n 0, 1) := dX7_write_21
theorem wdX7_write_22 : decode cX7_write 22 = .ok (.iload_n 3, 1) := dX7_write_22
theorem wdX7_write_23 : decode cX7_write 23 = .ok (.iconst 2, 1) := dX7_write_23
theorem wdX7_write_24 : decode cX7_write 24 = .ok (.if_icmp .ne 8, 3) := dX7_write_24
theorem wdX7_write_32 : decode cX7_write 32 = .ok (.iload_n 3, 1) := dX7_write_32
theorem wdX7_write_33 : decode cX7_write 33 = .ok (.ifCond .ne 8, 3) := dX7_write_33
theorem wdX7_write_41 : decode cX7_write 41 = .ok (.bipush 109, 2) := dX7_write_41
theorem wdX7_write_43 : decode cX7_write 43 = .ok (.invokevirtual 28, 3) := dX7_write_43
theorem wdX7_write_46 : decode cX7_write 46 = .ok (.iinc 2 1, 3) := dX7_write_46
theorem wdX7_write_49 : decode cX7_write 49 = .ok (.goto (-42), 3) := dX7_write_49
theorem wdX7_write_36 : decode cX7_write 36 = .ok (.bipush 108, 2) := dX7_write_36
theorem wdX7_write_38 : decode cX7_write 38 = .ok (.goto 5, 3) := dX7_write_38
theorem wdX7_write_27 : decode cX7_write 27 = .ok (.bipush 104, 2) := dX7_write_27
theorem wdX7_write_29 : decode cX7_write 29 = .ok (.goto 14, 3) := dX7_write_29
set_option maxRecDepth 4000 in
theorem lp_X7_write1 {p : Program} {l : Launch} {e : Env} {s : State} {m : MethodId} {args : Array Value} {below : List Frame} {meth : Method} {c : Code} {D : va_G} {B : Nat} {cy : Nat → ClassId} {H0 : Heap} {Q : State → Prop} {M : Mem} {R : Room} {a q hv ed : Nat} {o : Wo} (F : CallFix p m c cX7_write 4 s args TB RX7) (hR1 : 2 ≤ R.frames) (hR2 : 42 ≤ R.locals) (hk : kd a = (9, 0, 0)) (hC : CW M a q hv ed o) (kk : ∀ (t : Nat) (Nm : Mem) (H : Heap) (locs : List Loc) (ls : Array Slot), (isTx Nm (tT o.2.1 o.1)) → (FrX9 Nm M) → Wd D B cy s H0 Nm H locs → lv_has ls 4 [(0, .ref (B + 141)), (1, .ref (B + a))] → W p l e R s m args below meth c H locs 0 0 Q (F0 m 52 ls [])) : ∀ (f : Nat) (t : Nat) (Nm : Mem), (t ≤ o.1) → (isTx Nm (tT o.2.1 t)) → (FrX9 Nm M) → (o.1 ≤ t + f) → ∀ (H : Heap) (locs : List Loc) (ls : Array Slot), Wd D B cy s H0 Nm H locs → lv_has ls 4 [(2, .int (zI (t : Int))), (0, .ref (B + 141)), (1, .ref (B + a))] → W p l e R s m args below meth c H locs 0 0 Q (F0 m 7 ls []) := by
  have hx := F.1
  have hb := F.2.1
  have hW := hC.1
  have hwf := hC.wf
  have hKL := hwf.2.2.2.2
  have hn12 := hwf.1
  have hq12 := hwf.2.1
  have hhv := hwf.2.2.1
  have hed := hwf.2.2.2.1
  intro f
  induction f with
  | zero =>
    intro t Nm i0 i1 i2 hf H locs ls w hl
    have hL9 := tT_len (K := o.2.1) t
    refine lv_iload_n hx hb wdX7_write_7 rfl (lv_at hl 0 rfl) ?_
    refine lv_aload_n hx hb wdX7_write_8 rfl (lv_at hl 2 rfl) ?_
    refine f_9_0 F w (a := a) hk wtb_395 wdX7_write_9 ?_
    refine r_val (v := (zI ((o.1 : Nat) : Int))) ((hC.tx hk i2).1.1) ?_
    refine z_icmp_ge (tgt := 52) hx hb (by omega) (by omega) wdX7_write_12 (by decide) (fun c1 => ?_) (fun c1 => False.elim (by omega))
    exact kk t Nm _ _ ls (by have h9 := i1; rw [show t = o.1 by omega] at h9; exact h9) i2 w (lv_sub hl [1, 2] rfl)
  | succ f ih =>
    intro t Nm i0 i1 i2 hf H locs ls w hl
    have hL9 := tT_len (K := o.2.1) t
    refine lv_iload_n hx hb wdX7_write_7 rfl (lv_at hl 0 rfl) ?_
    refine lv_aload_n hx hb wdX7_write_8 rfl (lv_at hl 2 rfl) ?_
    refine f_9_0 F w (a := a) hk wtb_395 wdX7_write_9 ?_
    refine r_val (v := (zI ((o.1 : Nat) : Int))) ((hC.tx hk i2).1.1) ?_
    refine z_icmp_ge (tgt := 52) hx hb (by omega) (by omega) wdX7_write_12 (by decide) (fun c1 => ?_) (fun c1 => ?_)
    · exact kk t Nm _ _ ls (by have h9 := i1; rw [show t = o.1 by omega] at h9; exact h9) i2 w (lv_sub hl [1, 2] rfl)
    · refine lv_aload_n hx hb wdX7_write_15 rfl (lv_at hl 2 rfl) ?_
      refine lv_iload_n hx hb wdX7_write_16 rfl (lv_at hl 0 rfl) ?_
      refine k_Vi F w (As := [.int (zI (t : Int))]) (rest := []) (a := a) (kd_lt (a := a) hk (by decide)) (sh_9 hk _ _) rfl (s_X9_kindOf hk (hC.tx hk i2).1 hC.wf (t := (t : Int)) (by omega)) wgv_X7_24 whv_X9_kindOf ⟨(by omega), (by omega)⟩ hl.1 rfl (Nat.le_of_ble_eq_true rfl) ⟨Nat.zero_le _, Nat.zero_le _⟩ wdX7_write_17 (fun r Ma2 H locs hp w => ?_)
      rcases hp with ⟨⟨k8, e8, h8, rfl⟩ | ⟨n8, rfl⟩, hMe⟩
      · obtain rfl : t = k8 := by omega
        rw [hMe] at w
        have hkt9 := (hC.2.1.2.2 t (by omega)).1
        refine lv_istore_n (lv' := [(3, .int (zI (((o.2.1 t) : Nat) : Int))), (2, .int (zI (t : Int))), (0, .ref (B + 141)), (1, .ref (B + a))]) hx hb wdX7_write_20 rfl hl (by decide) rfl (fun ls hl => ?_)
        refine lv_aload_n hx hb wdX7_write_21 rfl (lv_at hl 2 rfl) ?_
        refine lv_iload_n hx hb wdX7_write_22 rfl (lv_at hl 0 rfl) ?_
        refine lv_iconst (v := zI 2) hx hb wdX7_write_23 rfl ?_
        refine z_icmp_ne (tgt := 32) hx hb (by omega) (by omega) wdX7_write_24 (by decide) (fun c3 => ?_) (fun c3 => ?_)
        · refine lv_iload_n hx hb wdX7_write_32 rfl (lv_at hl 0 rfl) ?_
          refine z_if_ne (tgt := 41) hx hb (by omega) wdX7_write_33 (by decide) (fun c4 => ?_) (fun c4 => ?_)
          · refine lv_bipush (v := zI 109) hx hb wdX7_write_41 (by decide) ?_
            refine k_Vv F w (As := [.int (zI 109)]) (rest := []) (a := 141) (kd_lt (a := 141) (show kd 141 = (7, 0, 0) from rfl) (by decide)) (sh_7 rfl _ _) rfl (h_put (tx := (tT o.2.1 t)) i1 (by omega) (c9 := 109) (by omega)) wgv_X7_28 whv_X7_put ⟨(by omega), (by omega)⟩ hl.1 rfl (Nat.le_of_ble_eq_true rfl) ⟨Nat.zero_le _, Nat.zero_le _⟩ wdX7_write_43 (fun Ma6 H locs hp w => ?_)
            rcases hp with ⟨hTp5, hFp5⟩
            have hLp5 : ((tT o.2.1 t) ++ [109]).length = ((tT o.2.1 t)).length + 1 := len1
            have hGp5 : FrX9 Ma6 M := FrX9.tr i2 hFp5
            refine z_iinc (v := (((t + 1) : Nat) : Int)) (lv' := [(2, .int (zI (((t + 1) : Nat) : Int))), (3, .int (zI (((o.2.1 t) : Nat) : Int))), (0, .ref (B + 141)), (1, .ref (B + a))]) hx hb wdX7_write_46 hl (k := 1) rfl (by omega) (by decide) rfl (fun ls hl => ?_)
            refine lv_goto (tgt := 7) hx hb wdX7_write_49 (by decide) ?_
            exact ih (t + 1) Ma6 (by omega) (by rw [← tT_1 (by omega) (by omega)]; exact hTp5) hGp5 (by omega) _ _ ls w (lv_sub hl [0, 2, 3] rfl)
          · refine lv_bipush (v := zI 108) hx hb wdX7_write_36 (by decide) ?_
            refine lv_goto (tgt := 43) hx hb wdX7_write_38 (by decide) ?_
            refine k_Vv F w (As := [.int (zI 108)]) (rest := []) (a := 141) (kd_lt (a := 141) (show kd 141 = (7, 0, 0) from rfl) (by decide)) (sh_7 rfl _ _) rfl (h_put (tx := (tT o.2.1 t)) i1 (by omega) (c9 := 108) (by omega)) wgv_X7_28 whv_X7_put ⟨(by omega), (by omega)⟩ hl.1 rfl (Nat.le_of_ble_eq_true rfl) ⟨Nat.zero_le _, Nat.zero_le _⟩ wdX7_write_43 (fun Ma8 H locs hp w => ?_)
            rcases hp with ⟨hTp7, hFp7⟩
            have hLp7 : ((tT o.2.1 t) ++ [108]).length = ((tT o.2.1 t)).length + 1 := len1
            have hGp7 : FrX9 Ma8 M := FrX9.tr i2 hFp7
            refine z_iinc (v := (((t + 1) : Nat) : Int)) (lv' := [(2, .int (zI (((t + 1) : Nat) : Int))), (3, .int (zI (((o.2.1 t) : Nat) : Int))), (0, .ref (B + 141)), (1, .ref (B + a))]) hx hb wdX7_write_46 hl (k := 1) rfl (by omega) (by decide) rfl (fun ls hl => ?_)
            refine lv_goto (tgt := 7) hx hb wdX7_write_49 (by decide) ?_
            exact ih (t + 1) Ma8 (by omega) (by rw [← tT_0 (by omega)]; exact hTp7) hGp7 (by omega) _ _ ls w (lv_sub hl [0, 2, 3] rfl)
        · refine lv_bipush (v := zI 104) hx hb wdX7_write_27 (by decide) ?_
          refine lv_goto (tgt := 43) hx hb wdX7_write_29 (by decide) ?_
          refine k_Vv F w (As := [.int (zI 104)]) (rest := []) (a := 141) (kd_lt (a := 141) (show kd 141 = (7, 0, 0) from rfl) (by decide)) (sh_7 rfl _ _) rfl (h_put (tx := (tT o.2.1 t)) i1 (by omega) (c9 := 104) (by omega)) wgv_X7_28 whv_X7_put ⟨(by omega), (by omega)⟩ hl.1 rfl (Nat.le_of_ble_eq_true rfl) ⟨Nat.zero_le _, Nat.zero_le _⟩ wdX7_write_43 (fun Ma10 H locs hp w => ?_)
          rcases hp with ⟨hTp9, hFp9⟩
          have hLp9 : ((tT o.2.1 t) ++ [104]).length = ((tT o.2.1 t)).length + 1 := len1
          have hGp9 : FrX9 Ma10 M := FrX9.tr i2 hFp9
          refine z_iinc (v := (((t + 1) : Nat) : Int)) (lv' := [(2, .int (zI (((t + 1) : Nat) : Int))), (3, .int (zI (((o.2.1 t) : Nat) : Int))), (0, .ref (B + 141)), (1, .ref (B + a))]) hx hb wdX7_write_46 hl (k := 1) rfl (by omega) (by decide) rfl (fun ls hl => ?_)
          refine lv_goto (tgt := 7) hx hb wdX7_write_49 (by decide) ?_
          exact ih (t + 1) Ma10 (by omega) (by rw [← tT_2 (by omega)]; exact hTp9) hGp9 (by omega) _ _ ls w (lv_sub hl [0, 2, 3] rfl)
      · exact False.elim (by omega)
theorem wdX7_write_60 : decode cX7_write 60 = .ok (.iload_n 2, 1) := dX7_write_60
theorem wdX7_write_61 : decode cX7_write 61 = .ok (.aload_n 1, 1) := dX7_write_61
theorem wdX7_write_62 : decode cX7_write 62 = .ok (.getfield 32, 3) := dX7_write_62
theorem wtb_398 : Cond.fieldLink "ToneLines$Speller" 32 "ToneLines$Word" "syllables" "I" ∈ TB := tb_264
theorem wdX7_write_65 : decode cX7_write 65 = .ok (.if_icmp .ge 42, 3) := dX7_write_65
theorem wdX7_write_68 : decode cX7_write 68 = .ok (.aload_n 1, 1) := dX7_write_68
theorem wdX7_write_69 : decode cX7_write 69 = .ok (.iload_n 2, 1) := dX7_write_69
theorem wdX7_write_70 : decode cX7_write 70 = .ok (.invokevirtual 35, 3) := dX7_write_70
theorem wtb_399 : Cond.methodLink "ToneLines$Speller" 35 yX9_hasEdge ∈ TB := tb_268
theorem wgv_X7_35 : GoodIn TB (wsV RX7 35 RX9 yX9_hasEdge (cw yX9_hasEdge cX9_hasEdge 2 (some .boolean))) := goodIn_4 wtb_399 wtb_256 wtb_257 wtb_3 wgc_X9_hasEdge
theorem wdX7_write_73 : decode cX7_write 73 = .ok (.ifCond .eq 9, 3) := dX7_write_73
theorem wdX7_write_76 : decode cX7_write 76 = .ok (.aload_n 0, 1) := dX7_write_76
theorem wdX7_write_77 : decode cX7_write 77 = .ok (.bipush 45, 2) := dX7_write_77
theorem wdX7_write_79 : decode cX7_write 79 = .ok (.invokevirtual 28, 3) := dX7_write_79
theorem wdX7_write_82 : decode cX7_write 82 = .ok (.aload_n 0, 1) := dX7_write_82
theorem wdX7_write_83 : decode cX7_write 83 = .ok (.aload_n 1, 1) := dX7_write_83
theorem wdX7_write_84 : decode cX7_write 84 = .ok (.iload_n 2, 1) := dX7_write_84
theorem wdX7_write_85 : decode cX7_write 85 = .ok (.invokevirtual 39, 3) := dX7_write_85
theorem wtb_400 : Cond.methodLink "ToneLines$Speller" 39 yX9_isHeavy ∈ TB := tb_269
theorem wgv_X7_39 : GoodIn TB (wsV RX7 39 RX9 yX9_isHeavy (cw yX9_isHeavy cX9_isHeavy 2 (some .boolean))) := goodIn_4 wtb_400 wtb_10 wtb_11 wtb_3 wgc_X9_isHeavy
theorem wdX7_write_88 : decode cX7_write 88 = .ok (.ifCond .eq 8, 3) := dX7_write_88
theorem wdX7_write_91 : decode cX7_write 91 = .ok (.bipush 79, 2) := dX7_write_91
theorem wdX7_write_93 : decode cX7_write 93 = .ok (.goto 5, 3) := dX7_write_93
theorem wdX7_write_98 : decode cX7_write 98 = .ok (.invokevirtual 28, 3) := dX7_write_98
theorem wdX7_write_101 : decode cX7_write 101 = .ok (.iinc 2 1, 3) := dX7_write_101
theorem wdX7_write_104 : decode cX7_write 104 = .ok (.goto (-44), 3) := dX7_write_104
theorem wdX7_write_96 : decode cX7_write 96 = .ok (.bipush 111, 2) := dX7_write_96
set_option maxRecDepth 4000 in
theorem lp_X7_write2 {p : Program} {l : Launch} {e : Env} {s : State} {m : MethodId} {args : Array Value} {below : List Frame} {meth : Method} {c : Code} {D : va_G} {B : Nat} {cy : Nat → ClassId} {H0 : Heap} {Q : State → Prop} {M : Mem} {R : Room} {a q hv ed : Nat} {o : Wo} (F : CallFix p m c cX7_write 4 s args TB RX7) (hR1 : 2 ≤ R.frames) (hR2 : 42 ≤ R.locals) (hk : kd a = (9, 0, 0)) (hC : CW M a q hv ed o) (kk : ∀ (sy : Nat) (Nm : Mem) (H : Heap) (locs : List Loc) (ls : Array Slot), (isTx Nm (tS hv ed (tT o.2.1 o.1 ++ [47]) q)) → (FrX9 Nm M) → Wd D B cy s H0 Nm H locs → lv_has ls 4 [(0, .ref (B + 141)), (1, .ref (B + a))] → W p l e R s m args below meth c H locs 0 0 Q (F0 m 107 ls [])) : ∀ (f : Nat) (sy : Nat) (Nm : Mem), (sy ≤ q) → (isTx Nm (tS hv ed (tT o.2.1 o.1 ++ [47]) sy)) → (FrX9 Nm M) → (q ≤ sy + f) → ∀ (H : Heap) (locs : List Loc) (ls : Array Slot), Wd D B cy s H0 Nm H locs → lv_has ls 4 [(2, .int (zI (sy : Int))), (0, .ref (B + 141)), (1, .ref (B + a))] → W p l e R s m args below meth c H locs 0 0 Q (F0 m 60 ls []) := by
  have hx := F.1
  have hb := F.2.1
  have hW := hC.1
  have hwf := hC.wf
  have hKL := hwf.2.2.2.2
  have hn12 := hwf.1
  have hq12 := hwf.2.1
  have hhv := hwf.2.2.1
  have hed := hwf.2.2.2.1
  intro f
  induction f with
  | zero =>
    intro sy Nm i0 i1 i2 hf H locs ls w hl
    have hL9 := tS_len (hv := hv) (ed := ed) (b := (tT o.2.1 o.1 ++ [47])) sy
    have hL8 : (tT o.2.1 o.1 ++ [47]).length = o.1 + 1 := by rw [List.length_append, tT_len]; rfl
    refine lv_iload_n hx hb wdX7_write_60 rfl (lv_at hl 0 rfl) ?_
    refine lv_aload_n hx hb wdX7_write_61 rfl (lv_at hl 2 rfl) ?_
    refine f_9_1 F w (a := a) hk wtb_398 wdX7_write_62 ?_
    refine r_val (v := (zI (q : Int))) ((hC.tx hk i2).1.2.1) ?_
    refine z_icmp_ge (tgt := 107) hx hb (by omega) (by omega) wdX7_write_65 (by decide) (fun c1 => ?_) (fun c1 => False.elim (by omega))
    exact kk sy Nm _ _ ls (by have h9 := i1; rw [show sy = q by omega] at h9; exact h9) i2 w (lv_sub hl [1, 2] rfl)
  | succ f ih =>
    intro sy Nm i0 i1 i2 hf H locs ls w hl
    have hL9 := tS_len (hv := hv) (ed := ed) (b := (tT o.2.1 o.1 ++ [47])) sy
    have hL8 : (tT o.2.1 o.1 ++ [47]).length = o.1 + 1 := by rw [List.length_append, tT_len]; rfl
    refine lv_iload_n hx hb wdX7_write_60 rfl (lv_at hl 0 rfl) ?_
    refine lv_aload_n hx hb wdX7_write_61 rfl (lv_at hl 2 rfl) ?_
    refine f_9_1 F w (a := a) hk wtb_398 wdX7_write_62 ?_
    refine r_val (v := (zI (q : Int))) ((hC.tx hk i2).1.2.1) ?_
    refine z_icmp_ge (tgt := 107) hx hb (by omega) (by omega) wdX7_write_65 (by decide) (fun c1 => ?_) (fun c1 => ?_)
    · exact kk sy Nm _ _ ls (by have h9 := i1; rw [show sy = q by omega] at h9; exact h9) i2 w (lv_sub hl [1, 2] rfl)
    · refine lv_aload_n hx hb wdX7_write_68 rfl (lv_at hl 2 rfl) ?_
      refine lv_iload_n hx hb wdX7_write_69 rfl (lv_at hl 0 rfl) ?_
      refine k_Vi F w (As := [.int (zI (sy : Int))]) (rest := []) (a := a) (kd_lt (a := a) hk (by decide)) (sh_9 hk _ _) rfl (s_X9_hasEdge hk (hC.tx hk i2).1 hC.wf (t := (sy : Int)) (by omega)) wgv_X7_35 whv_X9_hasEdge ⟨(by omega), (by omega)⟩ hl.1 rfl (Nat.le_of_ble_eq_true rfl) ⟨Nat.zero_le _, Nat.zero_le _⟩ wdX7_write_70 (fun r Ma2 H locs hp w => ?_)
      rcases hp with ⟨⟨k8, e8, h8, b8, rfl⟩ | ⟨b8, rfl⟩, hMe⟩
      · obtain rfl : sy = k8 := by omega
        rw [hMe] at w
        refine z_if_eq (tgt := 82) hx hb (by omega) wdX7_write_73 (by decide) (fun c3 => False.elim (by omega)) (fun c3 => ?_)
        refine lv_aload_n hx hb wdX7_write_76 rfl (lv_at hl 1 rfl) ?_
        refine lv_bipush (v := zI 45) hx hb wdX7_write_77 (by decide) ?_
        refine k_Vv F w (As := [.int (zI 45)]) (rest := []) (a := 141) (kd_lt (a := 141) (show kd 141 = (7, 0, 0) from rfl) (by decide)) (sh_7 rfl _ _) rfl (h_put (tx := (tS hv ed (tT o.2.1 o.1 ++ [47]) sy)) i1 (by omega) (c9 := 45) (by omega)) wgv_X7_28 whv_X7_put ⟨(by omega), (by omega)⟩ hl.1 rfl (Nat.le_of_ble_eq_true rfl) ⟨Nat.zero_le _, Nat.zero_le _⟩ wdX7_write_79 (fun Ma5 H locs hp w => ?_)
        rcases hp with ⟨hTp4, hFp4⟩
        have hLp4 : ((tS hv ed (tT o.2.1 o.1 ++ [47]) sy) ++ [45]).length = ((tS hv ed (tT o.2.1 o.1 ++ [47]) sy)).length + 1 := len1
        have hGp4 : FrX9 Ma5 M := FrX9.tr i2 hFp4
        refine lv_aload_n hx hb wdX7_write_82 rfl (lv_at hl 1 rfl) ?_
        refine lv_aload_n hx hb wdX7_write_83 rfl (lv_at hl 2 rfl) ?_
        refine lv_iload_n hx hb wdX7_write_84 rfl (lv_at hl 0 rfl) ?_
        refine k_Vi F w (As := [.int (zI (sy : Int))]) (rest := [.ref (B + 141)]) (a := a) (kd_lt (a := a) hk (by decide)) (sh_9 hk _ _) rfl (s_X9_isHeavy hk (hC.tx hk hGp4).1 hC.wf (t := (sy : Int)) (by omega)) wgv_X7_39 whv_X9_isHeavy ⟨(by omega), (by omega)⟩ hl.1 rfl (Nat.le_of_ble_eq_true rfl) ⟨Nat.zero_le _, Nat.zero_le _⟩ wdX7_write_85 (fun r Ma6 H locs hp w => ?_)
        rcases hp with ⟨⟨k7, e7, h7, b7, rfl⟩ | ⟨b7, rfl⟩, hMe⟩
        · obtain rfl : sy = k7 := by omega
          rw [hMe] at w
          refine z_if_eq (tgt := 96) hx hb (by omega) wdX7_write_88 (by decide) (fun c7 => False.elim (by omega)) (fun c7 => ?_)
          refine lv_bipush (v := zI 79) hx hb wdX7_write_91 (by decide) ?_
          refine lv_goto (tgt := 98) hx hb wdX7_write_93 (by decide) ?_
          refine k_Vv F w (As := [.int (zI 79)]) (rest := []) (a := 141) (kd_lt (a := 141) (show kd 141 = (7, 0, 0) from rfl) (by decide)) (sh_7 rfl _ _) rfl (h_put (tx := ((tS hv ed (tT o.2.1 o.1 ++ [47]) sy) ++ [45])) hTp4 (by omega) (c9 := 79) (by omega)) wgv_X7_28 whv_X7_put ⟨(by omega), (by omega)⟩ hl.1 rfl (Nat.le_of_ble_eq_true rfl) ⟨Nat.zero_le _, Nat.zero_le _⟩ wdX7_write_98 (fun Ma9 H locs hp w => ?_)
          rcases hp with ⟨hTp8, hFp8⟩
          have hLp8 : (((tS hv ed (tT o.2.1 o.1 ++ [47]) sy) ++ [45]) ++ [79]).length = (((tS hv ed (tT o.2.1 o.1 ++ [47]) sy) ++ [45])).length + 1 := len1
          have hGp8 : FrX9 Ma9 M := FrX9.tr hGp4 hFp8
          refine z_iinc (v := (((sy + 1) : Nat) : Int)) (lv' := [(2, .int (zI (((sy + 1) : Nat) : Int))), (0, .ref (B + 141)), (1, .ref (B + a))]) hx hb wdX7_write_101 hl (k := 0) rfl (by omega) (by decide) rfl (fun ls hl => ?_)
          refine lv_goto (tgt := 60) hx hb wdX7_write_104 (by decide) ?_
          exact ih (sy + 1) Ma9 (by omega) (by rw [tS_y b8, if_pos b7]; exact hTp8) hGp8 (by omega) _ _ ls w (lv_sub hl [0, 1, 2] rfl)
        · replace b7 : ¬ hv.testBit sy = true := fun h8 => b7 ⟨sy, rfl, by omega, h8⟩
          rw [hMe] at w
          refine z_if_eq (tgt := 96) hx hb (by omega) wdX7_write_88 (by decide) (fun c10 => ?_) (fun c10 => False.elim (by omega))
          refine lv_bipush (v := zI 111) hx hb wdX7_write_96 (by decide) ?_
          refine k_Vv F w (As := [.int (zI 111)]) (rest := []) (a := 141) (kd_lt (a := 141) (show kd 141 = (7, 0, 0) from rfl) (by decide)) (sh_7 rfl _ _) rfl (h_put (tx := ((tS hv ed (tT o.2.1 o.1 ++ [47]) sy) ++ [45])) hTp4 (by omega) (c9 := 111) (by omega)) wgv_X7_28 whv_X7_put ⟨(by omega), (by omega)⟩ hl.1 rfl (Nat.le_of_ble_eq_true rfl) ⟨Nat.zero_le _, Nat.zero_le _⟩ wdX7_write_98 (fun Ma12 H locs hp w => ?_)
          rcases hp with ⟨hTp11, hFp11⟩
          have hLp11 : (((tS hv ed (tT o.2.1 o.1 ++ [47]) sy) ++ [45]) ++ [111]).length = (((tS hv ed (tT o.2.1 o.1 ++ [47]) sy) ++ [45])).length + 1 := len1
          have hGp11 : FrX9 Ma12 M := FrX9.tr hGp4 hFp11
          refine z_iinc (v := (((sy + 1) : Nat) : Int)) (lv' := [(2, .int (zI (((sy + 1) : Nat) : Int))), (0, .ref (B + 141)), (1, .ref (B + a))]) hx hb wdX7_write_101 hl (k := 0) rfl (by omega) (by decide) rfl (fun ls hl => ?_)
          refine lv_goto (tgt := 60) hx hb wdX7_write_104 (by decide) ?_
          exact ih (sy + 1) Ma12 (by omega) (by rw [tS_y b8, if_neg b7]; exact hTp11) hGp11 (by omega) _ _ ls w (lv_sub hl [0, 1, 2] rfl)
      · replace b8 : ¬ ed.testBit sy = true := fun h8 => b8 ⟨sy, rfl, by omega, h8⟩
        rw [hMe] at w
        refine z_if_eq (tgt := 82) hx hb (by omega) wdX7_write_73 (by decide) (fun c13 => ?_) (fun c13 => False.elim (by omega))
        refine lv_aload_n hx hb wdX7_write_82 rfl (lv_at hl 1 rfl) ?_
        refine lv_aload_n hx hb wdX7_write_83 rfl (lv_at hl 2 rfl) ?_
        refine lv_iload_n hx hb wdX7_write_84 rfl (lv_at hl 0 rfl) ?_
        refine k_Vi F w (As := [.int (zI (sy : Int))]) (rest := [.ref (B + 141)]) (a := a) (kd_lt (a := a) hk (by decide)) (sh_9 hk _ _) rfl (s_X9_isHeavy hk (hC.tx hk i2).1 hC.wf (t := (sy : Int)) (by omega)) wgv_X7_39 whv_X9_isHeavy ⟨(by omega), (by omega)⟩ hl.1 rfl (Nat.le_of_ble_eq_true rfl) ⟨Nat.zero_le _, Nat.zero_le _⟩ wdX7_write_85 (fun r Ma14 H locs hp w => ?_)
        rcases hp with ⟨⟨k7, e7, h7, b7, rfl⟩ | ⟨b7, rfl⟩, hMe⟩
        · obtain rfl : sy = k7 := by omega
          rw [hMe] at w
          refine z_if_eq (tgt := 96) hx hb (by omega) wdX7_write_88 (by decide) (fun c15 => False.elim (by omega)) (fun c15 => ?_)
          refine lv_bipush (v := zI 79) hx hb wdX7_write_91 (by decide) ?_
          refine lv_goto (tgt := 98) hx hb wdX7_write_93 (by decide) ?_
          refine k_Vv F w (As := [.int (zI 79)]) (rest := []) (a := 141) (kd_lt (a := 141) (show kd 141 = (7, 0, 0) from rfl) (by decide)) (sh_7 rfl _ _) rfl (h_put (tx := (tS hv ed (tT o.2.1 o.1 ++ [47]) sy)) i1 (by omega) (c9 := 79) (by omega)) wgv_X7_28 whv_X7_put ⟨(by omega), (by omega)⟩ hl.1 rfl (Nat.le_of_ble_eq_true rfl) ⟨Nat.zero_le _, Nat.zero_le _⟩ wdX7_write_98 (fun Ma17 H locs hp w => ?_)
          rcases hp with ⟨hTp16, hFp16⟩
          have hLp16 : ((tS hv ed (tT o.2.1 o.1 ++ [47]) sy) ++ [79]).length = ((tS hv ed (tT o.2.1 o.1 ++ [47]) sy)).length + 1 := len1
          have hGp16 : FrX9 Ma17 M := FrX9.tr i2 hFp16
          refine z_iinc (v := (((sy + 1) : Nat) : Int)) (lv' := [(2, .int (zI (((sy + 1) : Nat) : Int))), (0, .ref (B + 141)), (1, .ref (B + a))]) hx hb wdX7_write_101 hl (k := 0) rfl (by omega) (by decide) rfl (fun ls hl => ?_)
          refine lv_goto (tgt := 60) hx hb wdX7_write_104 (by decide) ?_
          exact ih (sy + 1) Ma17 (by omega) (by rw [tS_n b8, if_pos b7]; exact hTp16) hGp16 (by omega) _ _ ls w (lv_sub hl [0, 1, 2] rfl)
        · replace b7 : ¬ hv.testBit sy = true := fun h8 => b7 ⟨sy, rfl, by omega, h8⟩
          rw [hMe] at w
          refine z_if_eq (tgt := 96) hx hb (by omega) wdX7_write_88 (by decide) (fun c18 => ?_) (fun c18 => False.elim (by omega))
          refine lv_bipush (v := zI 111) hx hb wdX7_write_96 (by decide) ?_
          refine k_Vv F w (As := [.int (zI 111)]) (rest := []) (a := 141) (kd_lt (a := 141) (show kd 141 = (7, 0, 0) from rfl) (by decide)) (sh_7 rfl _ _) rfl (h_put (tx := (tS hv ed (tT o.2.1 o.1 ++ [47]) sy)) i1 (by omega) (c9 := 111) (by omega)) wgv_X7_28 whv_X7_put ⟨(by omega), (by omega)⟩ hl.1 rfl (Nat.le_of_ble_eq_true rfl) ⟨Nat.zero_le _, Nat.zero_le _⟩ wdX7_write_98 (fun Ma20 H locs hp w => ?_)
          rcases hp with ⟨hTp19, hFp19⟩
          have hLp19 : ((tS hv ed (tT o.2.1 o.1 ++ [47]) sy) ++ [111]).length = ((tS hv ed (tT o.2.1 o.1 ++ [47]) sy)).length + 1 := len1
          have hGp19 : FrX9 Ma20 M := FrX9.tr i2 hFp19
          refine z_iinc (v := (((sy + 1) : Nat) : Int)) (lv' := [(2, .int (zI (((sy + 1) : Nat) : Int))), (0, .ref (B + 141)), (1, .ref (B + a))]) hx hb wdX7_write_101 hl (k := 0) rfl (by omega) (by decide) rfl (fun ls hl => ?_)
          refine lv_goto (tgt := 60) hx hb wdX7_write_104 (by decide) ?_
          exact ih (sy + 1) Ma20 (by omega) (by rw [tS_n b8, if_neg b7]; exact hTp19) hGp19 (by omega) _ _ ls w (lv_sub hl [0, 1, 2] rfl)
theorem wdX7_write_0 : decode cX7_write 0 = .ok (.aload_n 0, 1) := dX7_write_0
theorem wdX7_write_1 : decode cX7_write 1 = .ok (.iconst 0, 1) := dX7_write_1
theorem wdX7_write_2 : decode cX7_write 2 = .ok (.putfield 15, 3) := dX7_write_2
theorem wdX7_write_5 : decode cX7_write 5 = .ok (.iconst 0, 1) := dX7_write_5
theorem wdX7_write_6 : decode cX7_write 6 = .ok (.istore_n 2, 1) := dX7_write_6
theorem wdX7_write_52 : decode cX7_write 52 = .ok (.aload_n 0, 1) := dX7_write_52
theorem wdX7_write_53 : decode cX7_write 53 = .ok (.bipush 47, 2) := dX7_write_53
theorem wdX7_write_55 : decode cX7_write 55 = .ok (.invokevirtual 28, 3) := dX7_write_55
theorem wdX7_write_58 : decode cX7_write 58 = .ok (.iconst 0, 1) := dX7_write_58
theorem wdX7_write_59 : decode cX7_write 59 = .ok (.istore_n 2, 1) := dX7_write_59
theorem wdX7_write_107 : decode cX7_write 107 = .ok (.aload_n 0, 1) := dX7_write_107
theorem wdX7_write_108 : decode cX7_write 108 = .ok (.bipush 47, 2) := dX7_write_108
theorem wdX7_write_110 : decode cX7_write 110 = .ok (.invokevirtual 28, 3) := dX7_write_110
theorem wdX7_write_113 : decode cX7_write 113 = .ok (.aload_n 0, 1) := dX7_write_113
theorem wdX7_write_114 : decode cX7_write 114 = .ok (.aload_n 1, 1) := dX7_write_114
theorem wdX7_write_115 : decode cX7_write 115 = .ok (.invokevirtual 42, 3) := dX7_write_115
theorem wtk_X7_writeLines : Cond.code yX7_writeLines cX7_writeLines 5 none ∈ TB := tk_X7_writeLines
theorem wgc_X7_writeLines : GoodIn TB (cw yX7_writeLines cX7_writeLines 5 none) := goodIn_c2 wtk_X7_writeLines
theorem wtb_401 : Cond.methodLink "ToneLines$Speller" 42 yX7_writeLines ∈ TB := tb_265
theorem wtb_402 : Cond.instanceMethod yX7_writeLines ∈ TB := tb_266
theorem wtb_403 : Cond.selects "ToneLines$Speller" yX7_writeLines yX7_writeLines ∈ TB := tb_267
theorem wgv_X7_42 : GoodIn TB (wsV RX7 42 RX7 yX7_writeLines (cw yX7_writeLines cX7_writeLines 5 none)) := goodIn_4 wtb_401 wtb_402 wtb_403 wtb_391 wgc_X7_writeLines
theorem whv_X7_writeLines : yX7_writeLines.cls = RX7 ∧ yX7_writeLines.cls ≠ "java/lang/invoke/MethodHandle" ∧ yX7_writeLines.cls ≠ "java/lang/invoke/VarHandle" ∧ (parseMethodDescriptor yX7_writeLines.desc).map (fun d => d.parameters.length) = some 1 := hv_X7_writeLines
theorem wdX7_write_118 : decode cX7_write 118 = .ok (.return_, 1) := dX7_write_118
set_option maxRecDepth 4000 in
theorem h_write {l : Launch} {D : va_G} {B : Nat} {cy : Nat → ClassId} {M : Mem} {a q hv ed : Nat} {o : Wo} (hk : kd a = (9, 0, 0)) (hC : CW M a q hv ed o) (hn9 : ncW o) : Cv l D B cy yX7_write cX7_write 4 3 66 [.ref (B + 141), .ref (B + a)] M (fun M1 => isTx M1 (txF q hv ed o) ∧ FrX9 M1 M) := by
  refine s_any (by decide) (Nat.le_of_ble_eq_true rfl) ?_
  intro p e s m below meth c ls F hr hlocks w hl
  have F : CallFix p m c cX7_write 4 s _ TB RX7 := F
  have hx := F.1
  have hb := F.2.1
  have hl : lv_has ls 4 [(0, .ref (B + 141)), (1, .ref (B + a))] := hl
  have hW := hC.1
  have hwf := hC.wf
  have hKL := hwf.2.2.2.2
  have hn12 := hwf.1
  have hq12 := hwf.2.1
  have hhv := hwf.2.2.1
  have hed := hwf.2.2.2.1
  refine lv_aload_n hx hb wdX7_write_0 rfl (lv_at hl 0 rfl) ?_
  refine lv_iconst (v := zI 0) hx hb wdX7_write_1 rfl ?_
  refine u_7_1 F w (a := 141) rfl wtb_386 wdX7_write_2 (fun H locs w => ?_)
  refine lv_iconst (v := zI 0) hx hb wdX7_write_5 rfl ?_
  refine lv_istore_n (lv' := [(2, .int (zI 0)), (0, .ref (B + 141)), (1, .ref (B + a))]) hx hb wdX7_write_6 rfl hl (by decide) rfl (fun ls hl => ?_)
  refine lp_X7_write1  F (Nat.le_of_ble_eq_true rfl) (Nat.le_of_ble_eq_true rfl) hk hC (fun t Nm H locs ls x0 x1 w hl => ?_) o.1 0 (st M 141 1 (zI 0)) (by omega) isTx_0 FrX9.z (by omega) _ _ ls w (lv_sub hl [0, 1, 2] rfl)
  have hL8 := tT_len (K := o.2.1) o.1
  refine lv_aload_n hx hb wdX7_write_52 rfl (lv_at hl 0 rfl) ?_
  refine lv_bipush (v := zI 47) hx hb wdX7_write_53 (by decide) ?_
  refine k_Vv F w (As := [.int (zI 47)]) (rest := []) (a := 141) (kd_lt (a := 141) (show kd 141 = (7, 0, 0) from rfl) (by decide)) (sh_7 rfl _ _) rfl (h_put (tx := (tT o.2.1 o.1)) x0 (by omega) (c9 := 47) (by omega)) wgv_X7_28 whv_X7_put ⟨(Nat.le_of_ble_eq_true rfl), (Nat.le_of_ble_eq_true rfl)⟩ hl.1 rfl (Nat.le_of_ble_eq_true rfl) ⟨Nat.zero_le _, Nat.zero_le _⟩ wdX7_write_55 (fun Ma2 H locs hp w => ?_)
  rcases hp with ⟨hTp1, hFp1⟩
  have hLp1 : ((tT o.2.1 o.1) ++ [47]).length = ((tT o.2.1 o.1)).length + 1 := len1
  have hGp1 : FrX9 Ma2 M := FrX9.tr x1 hFp1
  refine lv_iconst (v := zI 0) hx hb wdX7_write_58 rfl ?_
  refine lv_istore_n (lv' := [(2, .int (zI 0)), (0, .ref (B + 141)), (1, .ref (B + a))]) hx hb wdX7_write_59 rfl hl (by decide) rfl (fun ls hl => ?_)
  refine lp_X7_write2  F (Nat.le_of_ble_eq_true rfl) (Nat.le_of_ble_eq_true rfl) hk hC (fun sy Nm2 H locs ls x0 x1 w hl => ?_) q 0 Ma2 (by omega) hTp1 hGp1 (by omega) _ _ ls w (lv_sub hl [0, 1, 2] rfl)
  have hL7 := tS_len (hv := hv) (ed := ed) (b := (tT o.2.1 o.1 ++ [47])) q
  refine lv_aload_n hx hb wdX7_write_107 rfl (lv_at hl 0 rfl) ?_
  refine lv_bipush (v := zI 47) hx hb wdX7_write_108 (by decide) ?_
  refine k_Vv F w (As := [.int (zI 47)]) (rest := []) (a := 141) (kd_lt (a := 141) (show kd 141 = (7, 0, 0) from rfl) (by decide)) (sh_7 rfl _ _) rfl (h_put (tx := (tS hv ed (tT o.2.1 o.1 ++ [47]) q)) x0 (by omega) (c9 := 47) (by omega)) wgv_X7_28 whv_X7_put ⟨(Nat.le_of_ble_eq_true rfl), (Nat.le_of_ble_eq_true rfl)⟩ hl.1 rfl (Nat.le_of_ble_eq_true rfl) ⟨Nat.zero_le _, Nat.zero_le _⟩ wdX7_write_110 (fun Ma4 H locs hp w => ?_)
  rcases hp with ⟨hTp3, hFp3⟩
  have hLp3 : ((tS hv ed (tT o.2.1 o.1 ++ [47]) q) ++ [47]).length = ((tS hv ed (tT o.2.1 o.1 ++ [47]) q)).length + 1 := len1
  have hGp3 : FrX9 Ma4 M := FrX9.tr x1 hFp3
  refine lv_aload_n hx hb wdX7_write_113 rfl (lv_at hl 0 rfl) ?_
  refine lv_aload_n hx hb wdX7_write_114 rfl (lv_at hl 1 rfl) ?_
  refine k_Vv F w (As := [.ref (B + a)]) (rest := []) (a := 141) (kd_lt (a := 141) (show kd 141 = (7, 0, 0) from rfl) (by decide)) (sh_7 rfl _ _) rfl (h_writeLines hk (hC.tx hk hGp3) hn9 (by exact hTp3)) wgv_X7_42 whv_X7_writeLines ⟨(Nat.le_of_ble_eq_true rfl), (Nat.le_of_ble_eq_true rfl)⟩ hl.1 rfl (Nat.le_of_ble_eq_true rfl) ⟨Nat.zero_le _, Nat.zero_le _⟩ wdX7_write_115 (fun Ma5 H locs hp w => ?_)
  rcases hp with ⟨hTz, hFz⟩
  exact e_v F w hr hlocks ⟨hTz, (FrX9.tr hGp3 hFz)⟩ wdX7_write_118
theorem wdX11_spell_0 : decode cX11_spell 0 = .ok (.aload_n 0, 1) := dX11_spell_0
theorem wdX11_spell_1 : decode cX11_spell 1 = .ok (.getfield 35, 3) := dX11_spell_1
theorem wdX11_spell_4 : decode cX11_spell 4 = .ok (.iload_n 1, 1) := dX11_spell_4
theorem wdX11_spell_5 : decode cX11_spell 5 = .ok (.invokevirtual 193, 3) := dX11_spell_5
theorem wdX11_spell_8 : decode cX11_spell 8 = .ok (.ifCond .eq 8, 3) := dX11_spell_8
theorem wdX11_spell_11 : decode cX11_spell 11 = .ok (.iload_n 2, 1) := dX11_spell_11
theorem wdX11_spell_12 : decode cX11_spell 12 = .ok (.iconst (-1), 1) := dX11_spell_12
theorem wdX11_spell_13 : decode cX11_spell 13 = .ok (.if_icmp .ge 5, 3) := dX11_spell_13
theorem wdX11_spell_18 : decode cX11_spell 18 = .ok (.aload_n 0, 1) := dX11_spell_18
theorem wdX11_spell_19 : decode cX11_spell 19 = .ok (.getfield 68, 3) := dX11_spell_19
theorem wtb_404 : Cond.fieldLink "ToneLines" 68 "ToneLines" "speller" "LToneLines$Speller;" ∈ TB := tb_367
theorem wdX11_spell_22 : decode cX11_spell 22 = .ok (.aload_n 0, 1) := dX11_spell_22
theorem wdX11_spell_23 : decode cX11_spell 23 = .ok (.getfield 35, 3) := dX11_spell_23
theorem wdX11_spell_26 : decode cX11_spell 26 = .ok (.iload_n 1, 1) := dX11_spell_26
theorem wdX11_spell_27 : decode cX11_spell 27 = .ok (.invokevirtual 196, 3) := dX11_spell_27
theorem wdX11_spell_30 : decode cX11_spell 30 = .ok (.invokevirtual 245, 3) := dX11_spell_30
theorem wtk_X7_write : Cond.code yX7_write cX7_write 4 none ∈ TB := tk_X7_write
theorem wgc_X7_write : GoodIn TB (cw yX7_write cX7_write 4 none) := goodIn_c2 wtk_X7_write
theorem wtb_405 : Cond.methodLink "ToneLines" 245 yX7_write ∈ TB := tb_368
theorem wtb_406 : Cond.instanceMethod yX7_write ∈ TB := tb_369
theorem wtb_407 : Cond.selects "ToneLines$Speller" yX7_write yX7_write ∈ TB := tb_370
theorem wgv_X11_245 : GoodIn TB (wsV RX11 245 RX7 yX7_write (cw yX7_write cX7_write 4 none)) := goodIn_4 wtb_405 wtb_406 wtb_407 wtb_391 wgc_X7_write
theorem whv_X7_write : yX7_write.cls = RX7 ∧ yX7_write.cls ≠ "java/lang/invoke/MethodHandle" ∧ yX7_write.cls ≠ "java/lang/invoke/VarHandle" ∧ (parseMethodDescriptor yX7_write.desc).map (fun d => d.parameters.length) = some 1 := hv_X7_write
theorem wdX11_spell_33 : decode cX11_spell 33 = .ok (.iload_n 2, 1) := dX11_spell_33
theorem wdX11_spell_34 : decode cX11_spell 34 = .ok (.iconst (-1), 1) := dX11_spell_34
theorem wdX11_spell_35 : decode cX11_spell 35 = .ok (.if_icmp .ne 11, 3) := dX11_spell_35
theorem wdX11_spell_46 : decode cX11_spell 46 = .ok (.iload_n 2, 1) := dX11_spell_46
theorem wdX11_spell_47 : decode cX11_spell 47 = .ok (.aload_n 0, 1) := dX11_spell_47
theorem wdX11_spell_48 : decode cX11_spell 48 = .ok (.getfield 68, 3) := dX11_spell_48
theorem wdX11_spell_51 : decode cX11_spell 51 = .ok (.getfield 248, 3) := dX11_spell_51
theorem wtb_408 : Cond.fieldLink "ToneLines" 248 "ToneLines$Speller" "size" "I" ∈ TB := tb_371
theorem wdX11_spell_54 : decode cX11_spell 54 = .ok (.if_icmp .ge 15, 3) := dX11_spell_54
theorem wdX11_spell_69 : decode cX11_spell 69 = .ok (.iconst (-1), 1) := dX11_spell_69
theorem wdX11_spell_70 : decode cX11_spell 70 = .ok (.ireturn, 1) := dX11_spell_70
theorem wdX11_spell_57 : decode cX11_spell 57 = .ok (.aload_n 0, 1) := dX11_spell_57
theorem wdX11_spell_58 : decode cX11_spell 58 = .ok (.getfield 68, 3) := dX11_spell_58
theorem wdX11_spell_61 : decode cX11_spell 61 = .ok (.getfield 249, 3) := dX11_spell_61
theorem wtb_409 : Cond.fieldLink "ToneLines" 249 "ToneLines$Speller" "signs" "[C" ∈ TB := tb_372
theorem wdX11_spell_64 : decode cX11_spell 64 = .ok (.iload_n 2, 1) := dX11_spell_64
theorem wdX11_spell_65 : decode cX11_spell 65 = .ok (.caload, 1) := dX11_spell_65
theorem wdX11_spell_66 : decode cX11_spell 66 = .ok (.goto 4, 3) := dX11_spell_66
theorem wdX11_spell_38 : decode cX11_spell 38 = .ok (.aload_n 0, 1) := dX11_spell_38
theorem wdX11_spell_39 : decode cX11_spell 39 = .ok (.getfield 68, 3) := dX11_spell_39
theorem wdX11_spell_42 : decode cX11_spell 42 = .ok (.getfield 248, 3) := dX11_spell_42
theorem wdX11_spell_45 : decode cX11_spell 45 = .ok (.ireturn, 1) := dX11_spell_45
theorem wdX11_spell_16 : decode cX11_spell 16 = .ok (.iconst (-1), 1) := dX11_spell_16
theorem wdX11_spell_17 : decode cX11_spell 17 = .ok (.ireturn, 1) := dX11_spell_17
set_option maxRecDepth 4000 in
theorem h_spell {l : Launch} {D : va_G} {B : Nat} {cy : Nat → ClassId} {M : Mem} {Ps : Nat → Nat → Int} {mr rd k q hv ed : Nat} {o : Wo} {Hs : Nat → Fw} (hS : CS M Ps mr (q, hv, ed, o) rd Hs k) (hn9 : ncW o) {n9 i9 : Int} (hn8 : rg n9) (hi9 : rg i9) : Ci l D B cy yX11_spell cX11_spell 3 (some .int) 6 155 [.ref (B + 0), .int (zI n9), .int (zI i9)] M (fun r M1 => r = zI (ofA Ps mr (q, hv, ed, o) n9 (spA i9))) := by
  refine s_any (by decide) (Nat.le_of_ble_eq_true rfl) ?_
  intro p e s m below meth c ls F hr hlocks w hl
  have F : CallFix p m c cX11_spell 3 s _ TB RX11 := F
  have hx := F.1
  have hb := F.2.1
  have hl : lv_has ls 3 [(0, .ref (B + 0)), (1, .int (zI n9)), (2, .int (zI i9))] := hl
  have hm8 := hS.1.2.1
  have hC : CW M 44 q hv ed o := hS.t
  have hW : isW M 44 o.1 q hv ed o.2.1 o.2.2 := hC.1
  have hwf := hC.wf
  have hKL := hwf.2.2.2.2
  have hn12 := hwf.1
  have hq12 := hwf.2.1
  have hhv := hwf.2.2.1
  have hed := hwf.2.2.2.1
  refine lv_aload_n hx hb wdX11_spell_0 rfl (lv_at hl 0 rfl) ?_
  refine f_11_3 F w (a := 0) rfl wtb_207 wdX11_spell_1 ?_
  refine lv_iload_n hx hb wdX11_spell_4 rfl (lv_at hl 1 rfl) ?_
  refine k_Vi F w (As := [.int (zI n9)]) (rest := []) (a := 22) (kd_lt (a := 22) (show kd 22 = (0, 0, 0) from rfl) (by decide)) (sh_0 rfl _ _) rfl (g_covers hS (n9 := n9) (by omega)) wgv_X11_193 whv_X0_covers ⟨(Nat.le_of_ble_eq_true rfl), (Nat.le_of_ble_eq_true rfl)⟩ hl.1 rfl (Nat.le_of_ble_eq_true rfl) ⟨Nat.zero_le _, Nat.zero_le _⟩ wdX11_spell_5 (fun r Ma2 H locs hp w => ?_)
  rcases hp with ⟨⟨hb1, rfl⟩ | ⟨hb1, rfl⟩, hMe⟩
  · rw [hMe] at w
    obtain ⟨nn, rfl⟩ : ∃ n8 : Nat, n9 = (n8 : Int) := ⟨Int.toNat n9, by omega⟩
    have hnn : nn ≤ mr := by omega
    refine z_if_eq (tgt := 16) hx hb (by omega) wdX11_spell_8 (by decide) (fun c3 => False.elim (by omega)) (fun c3 => ?_)
    refine lv_iload_n hx hb wdX11_spell_11 rfl (lv_at hl 2 rfl) ?_
    refine lv_iconst (v := zI (-1)) hx hb wdX11_spell_12 rfl ?_
    refine z_icmp_ge (tgt := 18) hx hb (by omega) (by omega) wdX11_spell_13 (by decide) (fun c4 => ?_) (fun c4 => ?_)
    · refine lv_aload_n hx hb wdX11_spell_18 rfl (lv_at hl 0 rfl) ?_
      refine f_11_8 F w (a := 0) rfl wtb_404 wdX11_spell_19 ?_
      refine lv_aload_n hx hb wdX11_spell_22 rfl (lv_at hl 0 rfl) ?_
      refine f_11_3 F w (a := 0) rfl wtb_207 wdX11_spell_23 ?_
      refine lv_iload_n hx hb wdX11_spell_26 rfl (lv_at hl 1 rfl) ?_
      refine k_Vr F w (As := [.int (zI (nn : Int))]) (rest := [.ref (B + 141)]) (a := 22) (kd_lt (a := 22) (show kd 22 = (0, 0, 0) from rfl) (by decide)) (sh_0 rfl _ _) rfl (g_stageOf hS (n9 := nn) (by omega)) wgv_X11_196 whv_X0_stageOf ⟨(Nat.le_of_ble_eq_true rfl), (Nat.le_of_ble_eq_true rfl)⟩ hl.1 rfl (Nat.le_of_ble_eq_true rfl) ⟨Nat.zero_le _, Nat.zero_le _⟩ wdX11_spell_27 (fun r Ma5 H locs hp w => ?_)
      rcases hp with ⟨rfl, rd1, hnr, _, hS1, _⟩
      have hC9 := hS1.2.1.2.2.1 nn (by omega)
      obtain ⟨o1, ho1⟩ : ∃ o1, o1 = sg9 Ps (q, hv, ed, o) nn := ⟨_, rfl⟩
      have hC1 : CW Ma5 (44 + 3 * nn) q hv ed o1 := by rw [ho1]; exact hC9
      have hW1 := hC1.1
      have hwf1 := hC1.wf
      have hKL1 := hwf1.2.2.2.2
      have hn1 := hwf1.1
      have hnc1 : ncW o1 := by rw [ho1]; exact nc_dvF hn9 nn (fun j hj => (hS.1.2.2 j (by omega)).2)
      refine k_Vv F w (As := [.ref (B + (44 + 3 * nn))]) (rest := []) (a := 141) (kd_lt (a := 141) (show kd 141 = (7, 0, 0) from rfl) (by decide)) (sh_7 rfl _ _) rfl (h_write (a := 44 + 3 * nn) (kd_sg (by omega)) hC1 hnc1) wgv_X11_245 whv_X7_write ⟨(Nat.le_of_ble_eq_true rfl), (Nat.le_of_ble_eq_true rfl)⟩ hl.1 rfl (Nat.le_of_ble_eq_true rfl) ⟨Nat.zero_le _, Nat.zero_le _⟩ wdX11_spell_30 (fun Ma6 H locs hp w => ?_)
      rcases hp with ⟨hTx, hFx⟩
      have htl := tx_len (hv := hv) (ed := ed) hC1.2.1 hnc1
      refine lv_iload_n hx hb wdX11_spell_33 rfl (lv_at hl 2 rfl) ?_
      refine lv_iconst (v := zI (-1)) hx hb wdX11_spell_34 rfl ?_
      refine z_icmp_ne (tgt := 46) hx hb (by omega) (by omega) wdX11_spell_35 (by decide) (fun c7 => ?_) (fun c7 => ?_)
      · refine lv_iload_n hx hb wdX11_spell_46 rfl (lv_at hl 2 rfl) ?_
        refine lv_aload_n hx hb wdX11_spell_47 rfl (lv_at hl 0 rfl) ?_
        refine f_11_8 F w (a := 0) rfl wtb_404 wdX11_spell_48 ?_
        refine f_7_1 F w (a := 141) rfl wtb_408 wdX11_spell_51 ?_
        refine r_val (v := (zI (((txF q hv ed o1).length : Nat) : Int))) (hTx.1) ?_
        refine z_icmp_ge (tgt := 69) hx hb (by omega) (by omega) wdX11_spell_54 (by decide) (fun c8 => ?_) (fun c8 => ?_)
        · refine lv_iconst (v := zI (-1)) hx hb wdX11_spell_69 rfl ?_
          exact e_i F w hr hlocks (congrArg zI ((ofA_y hnn).trans (by rw [← ho1]; exact spA_n (q := q) (hv := hv) (ed := ed) (by omega) (by omega))).symm) wdX11_spell_70
        · obtain ⟨ii, rfl⟩ : ∃ n8 : Nat, i9 = (n8 : Int) := ⟨Int.toNat i9, by omega⟩
          refine lv_aload_n hx hb wdX11_spell_57 rfl (lv_at hl 0 rfl) ?_
          refine f_11_8 F w (a := 0) rfl wtb_404 wdX11_spell_58 ?_
          refine f_7_0 F w (a := 141) rfl wtb_409 wdX11_spell_61 ?_
          refine lv_iload_n hx hb wdX11_spell_64 rfl (lv_at hl 2 rfl) ?_
          refine g_cald F w (a := 142) rfl (j := ii) (ix_n (by omega)) (by omega) wdX11_spell_65 ?_
          refine r_val (v := (zI ((((txF q hv ed o1).getD ii 0) : Nat) : Int))) (hTx.2 ii (by omega)) ?_
          refine lv_goto (tgt := 70) hx hb wdX11_spell_66 (by decide) ?_
          exact e_i F w hr hlocks (congrArg zI ((ofA_y hnn).trans (by rw [← ho1]; exact spA_y (q := q) (hv := hv) (ed := ed) (by omega))).symm) wdX11_spell_70
      · refine lv_aload_n hx hb wdX11_spell_38 rfl (lv_at hl 0 rfl) ?_
        refine f_11_8 F w (a := 0) rfl wtb_404 wdX11_spell_39 ?_
        refine f_7_1 F w (a := 141) rfl wtb_408 wdX11_spell_42 ?_
        refine r_val (v := (zI (((txF q hv ed o1).length : Nat) : Int))) (hTx.1) ?_
        exact e_i F w hr hlocks (congrArg zI ((ofA_y hnn).trans (by rw [← ho1]; exact spA_m (by omega))).symm) wdX11_spell_45
    · refine lv_iconst (v := zI (-1)) hx hb wdX11_spell_16 rfl ?_
      exact e_i F w hr hlocks (congrArg zI ((ofA_y hnn).trans (spA_n (by omega) (by omega))).symm) wdX11_spell_17
  · rw [hMe] at w
    refine z_if_eq (tgt := 16) hx hb (by omega) wdX11_spell_8 (by decide) (fun c9 => ?_) (fun c9 => False.elim (by omega))
    refine lv_iconst (v := zI (-1)) hx hb wdX11_spell_16 rfl ?_
    exact e_i F w hr hlocks (congrArg zI (ofA_n hb1).symm) wdX11_spell_17
