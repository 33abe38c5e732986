theorem wdX12_laysDue_11 : decode cX12_laysDue 11 = .ok (.iload_n 1, 1) := dX12_laysDue_11
theorem wdX12_laysDue_12 : decode cX12_laysDue 12 = .ok (.bipush 12, 2) := dX12_laysDue_12
theorem wdX12_laysDue_14 : decode cX12_laysDue 14 = .ok (.if_icmp .ge 35, 3) := dX12_laysDue_14
theorem wdX12_laysDue_17 : decode cX12_laysDue 17 = .ok (.aload_n 0, 1) := dX12_laysDue_17
theorem wdX12_laysDue_18 : decode cX12_laysDue 18 = .ok (.getfield 45, 3) := dX12_laysDue_18
theorem wtb_385 : Cond.fieldLink "ToneLinesModel" 45 "ToneLinesModel" "due" "[I" ∈ TB := tb_643
theorem wdX12_laysDue_21 : decode cX12_laysDue 21 = .ok (.iload_n 1, 1) := dX12_laysDue_21
theorem wdX12_laysDue_22 : decode cX12_laysDue 22 = .ok (.iload_n 1, 1) := dX12_laysDue_22
theorem wdX12_laysDue_23 : decode cX12_laysDue 23 = .ok (.aload_n 0, 1) := dX12_laysDue_23
theorem wdX12_laysDue_24 : decode cX12_laysDue 24 = .ok (.getfield 17, 3) := dX12_laysDue_24
theorem wdX12_laysDue_27 : decode cX12_laysDue 27 = .ok (.bipush 25, 2) := dX12_laysDue_27
theorem wdX12_laysDue_29 : decode cX12_laysDue 29 = .ok (.iaload, 1) := dX12_laysDue_29
theorem wdX12_laysDue_30 : decode cX12_laysDue 30 = .ok (.if_icmp .ge 11, 3) := dX12_laysDue_30
theorem wdX12_laysDue_41 : decode cX12_laysDue 41 = .ok (.iconst 0, 1) := dX12_laysDue_41
theorem wdX12_laysDue_42 : decode cX12_laysDue 42 = .ok (.iastore, 1) := dX12_laysDue_42
theorem wdX12_laysDue_43 : decode cX12_laysDue 43 = .ok (.iinc 1 1, 3) := dX12_laysDue_43
theorem wdX12_laysDue_46 : decode cX12_laysDue 46 = .ok (.goto (-35), 3) := dX12_laysDue_46
theorem wdX12_laysDue_33 : decode cX12_laysDue 33 = .ok (.aload_n 0, 1) := dX12_laysDue_33
theorem wdX12_laysDue_34 : decode cX12_laysDue 34 = .ok (.iload_n 1, 1) := dX12_laysDue_34
theorem wdX12_laysDue_35 : decode cX12_laysDue 35 = .ok (.invokevirtual 288, 3) := dX12_laysDue_35
theorem wdX12_laysDue_38 : decode cX12_laysDue 38 = .ok (.goto 4, 3) := dX12_laysDue_38
set_option maxRecDepth 4000 in
theorem lp_X12_laysDue {p : Program} {l : Launch} {e : Env} {s : State} {m : MethodId} {args : Array Value} {below : List Frame} {meth : Method} {c : Code} {D : va_G} {B : Nat} {cy : Nat → ClassId} {H0 : Heap} {Q : State → Prop} {M : Mem} {R : Room} {Ps : Nat → Nat → Int} {mr k q hv ed : Nat} {o oT : Wo} {Hs : Nat → Fw} {zT : Int} (F : CallFix p m c cX12_laysDue 2 s args TB RX12) (hR1 : 2 ≤ R.frames) (hR2 : 45 ≤ R.locals) (hq12 : q ≤ 12) (kk : ∀ (sy : Nat) (Nm : Mem) (H : Heap) (locs : List Loc) (ls : Array Slot), (isDu Nm q oT) → (MS Nm Ps mr (q, hv, ed, o) Hs k) → Wd D B cy s H0 Nm H locs → lv_has ls 2 [] → W p l e R s m args below meth c H locs 0 0 Q (F0 m 49 ls [])) : ∀ (f : Nat) (sy : Nat) (Nm : Mem), (sy ≤ 12) → (RW Nm q hv ed oT zT) → (∀ s9, s9 < sy → Nm.1 157 s9 = zI (((if s9 < q then rdW9 oT s9 else 0) : Nat) : Int)) → (MS Nm Ps mr (q, hv, ed, o) Hs k) → (12 ≤ sy + f) → ∀ (H : Heap) (locs : List Loc) (ls : Array Slot), Wd D B cy s H0 Nm H locs → lv_has ls 2 [(1, .int (zI (sy : Int))), (0, .ref (B + 146))] → W p l e R s m args below meth c H locs 0 0 Q (F0 m 11 ls []) := by
  have hx := F.1
  have hb := F.2.1
  intro f
  induction f with
  | zero =>
    intro sy Nm i0 i1 i2 i3 hf H locs ls w hl
    refine lv_iload_n hx hb wdX12_laysDue_11 rfl (lv_at hl 0 rfl) ?_
    refine lv_bipush (v := zI 12) hx hb wdX12_laysDue_12 (by decide) ?_
    refine z_icmp_ge (tgt := 49) hx hb (by omega) (by omega) wdX12_laysDue_14 (by decide) (fun c1 => ?_) (fun c1 => False.elim (by omega))
    exact kk sy Nm _ _ ls (fun s9 hs9 => i2 s9 (by omega)) i3 w (lv_sub hl [] rfl)
  | succ f ih =>
    intro sy Nm i0 i1 i2 i3 hf H locs ls w hl
    refine lv_iload_n hx hb wdX12_laysDue_11 rfl (lv_at hl 0 rfl) ?_
    refine lv_bipush (v := zI 12) hx hb wdX12_laysDue_12 (by decide) ?_
    refine z_icmp_ge (tgt := 49) hx hb (by omega) (by omega) wdX12_laysDue_14 (by decide) (fun c1 => ?_) (fun c1 => ?_)
    · exact kk sy Nm _ _ ls (fun s9 hs9 => i2 s9 (by omega)) i3 w (lv_sub hl [] rfl)
    · refine lv_aload_n hx hb wdX12_laysDue_17 rfl (lv_at hl 1 rfl) ?_
      refine f_12_23 F w (a := 146) rfl wtb_385 wdX12_laysDue_18 ?_
      refine lv_iload_n hx hb wdX12_laysDue_21 rfl (lv_at hl 0 rfl) ?_
      refine lv_iload_n hx hb wdX12_laysDue_22 rfl (lv_at hl 0 rfl) ?_
      refine lv_aload_n hx hb wdX12_laysDue_23 rfl (lv_at hl 1 rfl) ?_
      refine f_12_2 F w (a := 146) rfl wtb_102 wdX12_laysDue_24 ?_
      refine lv_bipush (v := zI 25) hx hb wdX12_laysDue_27 (by decide) ?_
      refine g_iald F w (a := 148) rfl (j := 25) ⟨by decide, by decide⟩ (by omega) wdX12_laysDue_29 ?_
      refine r_val (v := (zI (q : Int))) (i1.1.2.1) ?_
      refine z_icmp_ge (tgt := 41) hx hb (by omega) (by omega) wdX12_laysDue_30 (by decide) (fun c2 => ?_) (fun c2 => ?_)
      · refine lv_iconst (v := zI 0) hx hb wdX12_laysDue_41 rfl ?_
        refine g_iast F w (a := 157) rfl (j := sy) (ix_n (by omega)) (by omega) wdX12_laysDue_42 (fun H locs w => ?_)
        refine z_iinc (v := (((sy + 1) : Nat) : Int)) (lv' := [(1, .int (zI (((sy + 1) : Nat) : Int))), (0, .ref (B + 146))]) hx hb wdX12_laysDue_43 hl (k := 0) rfl (by omega) (by decide) rfl (fun ls hl => ?_)
        refine lv_goto (tgt := 11) hx hb wdX12_laysDue_46 (by decide) ?_
        exact ih (sy + 1) (st Nm 157 sy (zI 0)) (by omega) (RW.of157 i1) (fun s9 hs9 => by by_cases h9 : s9 = sy; (subst h9; rw [(du_n (by omega))]; exact st_at); exact (st_ne (Or.inr h9)).trans (i2 s9 (by omega))) (i3.fr (st_ob (by decide)) (st_ob (by decide)) (st_ob (by decide)) (congrFun (st_ob (by decide)) 5) (congrFun (st_ob (by decide)) 20)) (by omega) _ _ ls w (lv_sub hl [0, 1] rfl)
      · refine lv_aload_n hx hb wdX12_laysDue_33 rfl (lv_at hl 1 rfl) ?_
        refine lv_iload_n hx hb wdX12_laysDue_34 rfl (lv_at hl 0 rfl) ?_
        refine x_Vi F w (As := [.int (zI (sy : Int))]) (rest := [.int (zI (sy : Int)), .ref (B + 157)]) (a := 146) (kd_lt (a := 146) (show kd 146 = (12, 0, 0) from rfl) (by decide)) (sh_12 rfl _ _) rfl (k_reading i1 (j9 := sy) (by omega)) wgv_X12_288 whv_X12_reading ⟨(by omega), (by omega)⟩ hl.1 rfl (Nat.le_of_ble_eq_true rfl) ⟨Nat.zero_le _, Nat.zero_le _⟩ wdX12_laysDue_35 (fun H locs w => ?_)
        have hrw := rdW_b (s := sy) i1.2.1
        refine lv_goto (tgt := 42) hx hb wdX12_laysDue_38 (by decide) ?_
        refine g_iast F w (a := 157) rfl (j := sy) (ix_n (by omega)) (by omega) wdX12_laysDue_42 (fun H locs w => ?_)
        refine z_iinc (v := (((sy + 1) : Nat) : Int)) (lv' := [(1, .int (zI (((sy + 1) : Nat) : Int))), (0, .ref (B + 146))]) hx hb wdX12_laysDue_43 hl (k := 0) rfl (by omega) (by decide) rfl (fun ls hl => ?_)
        refine lv_goto (tgt := 11) hx hb wdX12_laysDue_46 (by decide) ?_
        exact ih (sy + 1) (st Nm 157 sy (zI (((rdW9 oT sy) : Nat) : Int))) (by omega) (RW.of157 i1) (fun s9 hs9 => by by_cases h9 : s9 = sy; (subst h9; rw [(du_y (by omega))]; exact st_at); exact (st_ne (Or.inr h9)).trans (i2 s9 (by omega))) (i3.fr (st_ob (by decide)) (st_ob (by decide)) (st_ob (by decide)) (congrFun (st_ob (by decide)) 5) (congrFun (st_ob (by decide)) 20)) (by omega) _ _ ls w (lv_sub hl [0, 1] rfl)
theorem wdX12_laysDue_0 : decode cX12_laysDue 0 = .ok (.aload_n 0, 1) := dX12_laysDue_0
theorem wdX12_laysDue_1 : decode cX12_laysDue 1 = .ok (.aload_n 0, 1) := dX12_laysDue_1
theorem wdX12_laysDue_2 : decode cX12_laysDue 2 = .ok (.getfield 239, 3) := dX12_laysDue_2
theorem wdX12_laysDue_5 : decode cX12_laysDue 5 = .ok (.invokevirtual 255, 3) := dX12_laysDue_5
theorem wdX12_laysDue_8 : decode cX12_laysDue 8 = .ok (.pop, 1) := dX12_laysDue_8
theorem wdX12_laysDue_9 : decode cX12_laysDue 9 = .ok (.iconst 0, 1) := dX12_laysDue_9
theorem wdX12_laysDue_10 : decode cX12_laysDue 10 = .ok (.istore_n 1, 1) := dX12_laysDue_10
theorem wdX12_laysDue_49 : decode cX12_laysDue 49 = .ok (.return_, 1) := dX12_laysDue_49
set_option maxRecDepth 4000 in
theorem k_laysDue {l : Launch} {D : va_G} {B : Nat} {cy : Nat → ClassId} {M : Mem} {Ps : Nat → Nat → Int} {mr k q hv ed : Nat} {o : Wo} {Hs : Nat → Fw} (hS : MS M Ps mr (q, hv, ed, o) Hs k) : Cv l D B cy yX12_laysDue cX12_laysDue 2 9 212 [.ref (B + 146)] M (fun M1 => isDu M1 q (sg9 Ps (q, hv, ed, o) mr) ∧ MS M1 Ps mr (q, hv, ed, o) Hs k) := by
  refine s_any (by decide) (Nat.le_of_ble_eq_true rfl) ?_
  intro p e s m below meth c ls F hr hlocks w hl
  have F : CallFix p m c cX12_laysDue 2 s _ TB RX12 := F
  have hx := F.1
  have hb := F.2.1
  have hl : lv_has ls 2 [(0, .ref (B + 146))] := hl
  have hm8 := hS.1.1
  have hk12 := hS.2.2.2.2.1
  have hC : TW M q hv ed o := hS.T
  have hW : isR M 147 o.1 q hv ed o.2.1 o.2.2 := hC.1
  have hwf := hC.wf
  have hKL := hwf.2.2.2.2
  have hn12 := hwf.1
  have hq12 := hwf.2.1
  have hhv := hwf.2.2.1
  have hed := hwf.2.2.2.1
  refine lv_aload_n hx hb wdX12_laysDue_0 rfl (lv_at hl 0 rfl) ?_
  refine lv_aload_n hx hb wdX12_laysDue_1 rfl (lv_at hl 0 rfl) ?_
  refine f_12_5 F w (a := 146) rfl wtb_291 wdX12_laysDue_2 ?_
  refine r_val (v := (zI (mr : Int))) (hS.2.1) ?_
  refine k_Vi F w (As := [.int (zI (mr : Int))]) (rest := []) (a := 146) (kd_lt (a := 146) (show kd 146 = (12, 0, 0) from rfl) (by decide)) (sh_12 rfl _ _) rfl (s_X12_derives hC hS.1 (n9 := mr) (by omega)) wgv_X12_255 whv_X12_derives ⟨(Nat.le_of_ble_eq_true rfl), (Nat.le_of_ble_eq_true rfl)⟩ hl.1 rfl (Nat.le_of_ble_eq_true rfl) ⟨Nat.zero_le _, Nat.zero_le _⟩ wdX12_laysDue_5 (fun r Ma1 H locs hp w => ?_)
  rcases hp with ⟨oT, dT, eT, rfl, ⟨zT, hRT⟩, hFT, hdT⟩
  have hS0 := hS.fw hFT
  have eS : oT = sg9 Ps (q, hv, ed, o) mr := (congrArg Prod.fst eT).symm
  refine lv_pop hx hb wdX12_laysDue_8 rfl ?_
  refine lv_iconst (v := zI 0) hx hb wdX12_laysDue_9 rfl ?_
  refine lv_istore_n (lv' := [(1, .int (zI 0)), (0, .ref (B + 146))]) hx hb wdX12_laysDue_10 rfl hl (by decide) rfl (fun ls hl => ?_)
  refine lp_X12_laysDue (M := M) F (Nat.le_of_ble_eq_true rfl) (Nat.le_of_ble_eq_true rfl) hq12 (fun sy Nm H locs ls x0 x1 w hl => ?_) 12 0 Ma1 (by omega) hRT (fun s9 hs9 => absurd hs9 (Nat.not_lt_zero s9)) hS0 (by omega) _ _ ls w (lv_sub hl [0, 1] rfl)
  exact e_v F w hr hlocks ⟨by rw [← eS]; exact x0, x1⟩ wdX12_laysDue_49
theorem wdX12_isDue_2 : decode cX12_isDue 2 = .ok (.iload_n 1, 1) := dX12_isDue_2
theorem wdX12_isDue_3 : decode cX12_isDue 3 = .ok (.aload_n 0, 1) := dX12_isDue_3
theorem wdX12_isDue_4 : decode cX12_isDue 4 = .ok (.getfield 17, 3) := dX12_isDue_4
theorem wdX12_isDue_7 : decode cX12_isDue 7 = .ok (.bipush 25, 2) := dX12_isDue_7
theorem wdX12_isDue_9 : decode cX12_isDue 9 = .ok (.iaload, 1) := dX12_isDue_9
theorem wdX12_isDue_10 : decode cX12_isDue 10 = .ok (.if_icmp .ge 25, 3) := dX12_isDue_10
theorem wdX12_isDue_13 : decode cX12_isDue 13 = .ok (.aload_n 0, 1) := dX12_isDue_13
theorem wdX12_isDue_14 : decode cX12_isDue 14 = .ok (.iload_n 1, 1) := dX12_isDue_14
theorem wdX12_isDue_15 : decode cX12_isDue 15 = .ok (.invokevirtual 288, 3) := dX12_isDue_15
theorem wdX12_isDue_18 : decode cX12_isDue 18 = .ok (.aload_n 0, 1) := dX12_isDue_18
theorem wdX12_isDue_19 : decode cX12_isDue 19 = .ok (.getfield 45, 3) := dX12_isDue_19
theorem wdX12_isDue_22 : decode cX12_isDue 22 = .ok (.iload_n 1, 1) := dX12_isDue_22
theorem wdX12_isDue_23 : decode cX12_isDue 23 = .ok (.iaload, 1) := dX12_isDue_23
theorem wdX12_isDue_24 : decode cX12_isDue 24 = .ok (.if_icmp .eq 5, 3) := dX12_isDue_24
theorem wdX12_isDue_29 : decode cX12_isDue 29 = .ok (.iinc 1 1, 3) := dX12_isDue_29
theorem wdX12_isDue_32 : decode cX12_isDue 32 = .ok (.goto (-30), 3) := dX12_isDue_32
theorem wdX12_isDue_27 : decode cX12_isDue 27 = .ok (.iconst 0, 1) := dX12_isDue_27
theorem wdX12_isDue_28 : decode cX12_isDue 28 = .ok (.ireturn, 1) := dX12_isDue_28
set_option maxRecDepth 4000 in
theorem lp_X12_isDue {p : Program} {l : Launch} {e : Env} {s : State} {m : MethodId} {args : Array Value} {below : List Frame} {meth : Method} {c : Code} {D : va_G} {B : Nat} {cy : Nat → ClassId}  {M : Mem} {R : Room} {q hv ed : Nat} {o o2 : Wo} {z9 : Int} (F : CallFix p m c cX12_isDue 2 s args TB RX12) (hr : meth.sig.returnType = (some .boolean)) (hlocks : meth.locks = false) (hR1 : 2 ≤ R.frames) (hR2 : 45 ≤ R.locals) (hR : RW M q hv ed o z9) (hD : isDu M q o2) (hd9 : okW q o2) (kk : ∀ (sy : Nat) (H : Heap) (locs : List Loc) (ls : Array Slot), (rdE q o o2) → Wd D B cy s s.heap M H locs → lv_has ls 2 [] → W p l e R s m args below meth c H locs 0 0 (MQ below (va_Qi (fun r M1 => ((rdE q o o2) ∧ r = zI 1 ∨ ¬ (rdE q o o2) ∧ r = zI 0) ∧ M1 = M) (fun M2 t2 => Wp D B cy M2 t2) (fun q2 => B ≤ q2)) args s 0 0 (fun q2 => B ≤ q2)) (F0 m 35 ls [])) : ∀ (f : Nat) (sy : Nat), (sy ≤ q) → (∀ s9, s9 < sy → rdW9 o s9 = rdW9 o2 s9) → (q ≤ sy + f) → ∀ (H : Heap) (locs : List Loc) (ls : Array Slot), Wd D B cy s s.heap M H locs → lv_has ls 2 [(1, .int (zI (sy : Int))), (0, .ref (B + 146))] → W p l e R s m args below meth c H locs 0 0 (MQ below (va_Qi (fun r M1 => ((rdE q o o2) ∧ r = zI 1 ∨ ¬ (rdE q o o2) ∧ r = zI 0) ∧ M1 = M) (fun M2 t2 => Wp D B cy M2 t2) (fun q2 => B ≤ q2)) args s 0 0 (fun q2 => B ≤ q2)) (F0 m 2 ls []) := by
  have hx := F.1
  have hb := F.2.1
  have hW := hR.1
  have hwf := hR.wf
  have hKL := hwf.2.2.2.2
  have hn12 := hwf.1
  have hq12 := hwf.2.1
  have hhv := hwf.2.2.1
  have hed := hwf.2.2.2.1
  have hc := hR.2.2.2.2
  intro f
  induction f with
  | zero =>
    intro sy i0 i1 hf H locs ls w hl
    refine lv_iload_n hx hb wdX12_isDue_2 rfl (lv_at hl 0 rfl) ?_
    refine lv_aload_n hx hb wdX12_isDue_3 rfl (lv_at hl 1 rfl) ?_
    refine f_12_2 F w (a := 146) rfl wtb_102 wdX12_isDue_4 ?_
    refine lv_bipush (v := zI 25) hx hb wdX12_isDue_7 (by decide) ?_
    refine g_iald F w (a := 148) rfl (j := 25) ⟨by decide, by decide⟩ (by omega) wdX12_isDue_9 ?_
    refine r_val (v := (zI (q : Int))) (hW.2.1) ?_
    refine z_icmp_ge (tgt := 35) hx hb (by omega) (by omega) wdX12_isDue_10 (by decide) (fun c1 => ?_) (fun c1 => False.elim (by omega))
    exact kk sy _ _ ls (fun s9 hs9 => i1 s9 (by omega)) w (lv_sub hl [] rfl)
  | succ f ih =>
    intro sy i0 i1 hf H locs ls w hl
    refine lv_iload_n hx hb wdX12_isDue_2 rfl (lv_at hl 0 rfl) ?_
    refine lv_aload_n hx hb wdX12_isDue_3 rfl (lv_at hl 1 rfl) ?_
    refine f_12_2 F w (a := 146) rfl wtb_102 wdX12_isDue_4 ?_
    refine lv_bipush (v := zI 25) hx hb wdX12_isDue_7 (by decide) ?_
    refine g_iald F w (a := 148) rfl (j := 25) ⟨by decide, by decide⟩ (by omega) wdX12_isDue_9 ?_
    refine r_val (v := (zI (q : Int))) (hW.2.1) ?_
    refine z_icmp_ge (tgt := 35) hx hb (by omega) (by omega) wdX12_isDue_10 (by decide) (fun c1 => ?_) (fun c1 => ?_)
    · exact kk sy _ _ ls (fun s9 hs9 => i1 s9 (by omega)) w (lv_sub hl [] rfl)
    · refine lv_aload_n hx hb wdX12_isDue_13 rfl (lv_at hl 1 rfl) ?_
      refine lv_iload_n hx hb wdX12_isDue_14 rfl (lv_at hl 0 rfl) ?_
      refine x_Vi F w (As := [.int (zI (sy : Int))]) (rest := []) (a := 146) (kd_lt (a := 146) (show kd 146 = (12, 0, 0) from rfl) (by decide)) (sh_12 rfl _ _) rfl (k_reading hR (j9 := sy) (by omega)) wgv_X12_288 whv_X12_reading ⟨(by omega), (by omega)⟩ hl.1 rfl (Nat.le_of_ble_eq_true rfl) ⟨Nat.zero_le _, Nat.zero_le _⟩ wdX12_isDue_15 (fun H locs w => ?_)
      have hrw := rdW_b (s := sy) hR.2.1
      have hrv := rdW_b (s := sy) hd9
      refine lv_aload_n hx hb wdX12_isDue_18 rfl (lv_at hl 1 rfl) ?_
      refine f_12_23 F w (a := 146) rfl wtb_385 wdX12_isDue_19 ?_
      refine lv_iload_n hx hb wdX12_isDue_22 rfl (lv_at hl 0 rfl) ?_
      refine g_iald F w (a := 157) rfl (j := sy) (ix_n (by omega)) (by omega) wdX12_isDue_23 ?_
      refine r_val (v := (zI (((rdW9 o2 sy) : Nat) : Int))) (((hD sy (by omega)).trans (congrArg zI (congrArg _ (du_y (by omega)))))) ?_
      refine z_icmp_eq (tgt := 29) hx hb (by omega) (by omega) wdX12_isDue_24 (by decide) (fun c3 => ?_) (fun c3 => ?_)
      · refine z_iinc (v := (((sy + 1) : Nat) : Int)) (lv' := [(1, .int (zI (((sy + 1) : Nat) : Int))), (0, .ref (B + 146))]) hx hb wdX12_isDue_29 hl (k := 0) rfl (by omega) (by decide) rfl (fun ls hl => ?_)
        refine lv_goto (tgt := 2) hx hb wdX12_isDue_32 (by decide) ?_
        exact ih (sy + 1) (by omega) (fun s9 hs9 => by by_cases h9 : s9 = sy; (rw [h9]; omega); exact i1 s9 (by omega)) (by omega) _ _ ls w (lv_sub hl [0, 1] rfl)
      · refine lv_iconst (v := zI 0) hx hb wdX12_isDue_27 rfl ?_
        exact e_z F w hr hlocks (nar_z (by omega)) ⟨Or.inr ⟨fun h9 => by have := h9 sy (by omega); omega, rfl⟩, rfl⟩ wdX12_isDue_28
theorem wdX12_isDue_0 : decode cX12_isDue 0 = .ok (.iconst 0, 1) := dX12_isDue_0
theorem wdX12_isDue_1 : decode cX12_isDue 1 = .ok (.istore_n 1, 1) := dX12_isDue_1
theorem wdX12_isDue_35 : decode cX12_isDue 35 = .ok (.iconst 1, 1) := dX12_isDue_35
theorem wdX12_isDue_36 : decode cX12_isDue 36 = .ok (.ireturn, 1) := dX12_isDue_36
set_option maxRecDepth 4000 in
theorem k_isDue {l : Launch} {D : va_G} {B : Nat} {cy : Nat → ClassId} {M : Mem} {q hv ed : Nat} {o : Wo} {z9 : Int} (hR : RW M q hv ed o z9) {o2 : Wo} (hD : isDu M q o2) (hd9 : okW q o2) : Ci l D B cy yX12_isDue cX12_isDue 2 (some .boolean) 2 45 [.ref (B + 146)] M (fun r M1 => ((rdE q o o2) ∧ r = zI 1 ∨ ¬ (rdE q o o2) ∧ r = zI 0) ∧ M1 = M) := by
  refine s_any (by decide) (Nat.le_of_ble_eq_true rfl) ?_
  intro p e s m below meth c ls F hr hlocks w hl
  have F : CallFix p m c cX12_isDue 2 s _ TB RX12 := F
  have hx := F.1
  have hb := F.2.1
  have hl : lv_has ls 2 [(0, .ref (B + 146))] := hl
  have hW := hR.1
  have hwf := hR.wf
  have hKL := hwf.2.2.2.2
  have hn12 := hwf.1
  have hq12 := hwf.2.1
  have hhv := hwf.2.2.1
  have hed := hwf.2.2.2.1
  have hc := hR.2.2.2.2
  refine lv_iconst (v := zI 0) hx hb wdX12_isDue_0 rfl ?_
  refine lv_istore_n (lv' := [(1, .int (zI 0)), (0, .ref (B + 146))]) hx hb wdX12_isDue_1 rfl hl (by decide) rfl (fun ls hl => ?_)
  refine lp_X12_isDue  F hr hlocks (Nat.le_of_ble_eq_true rfl) (Nat.le_of_ble_eq_true rfl) hR hD hd9 (fun sy H locs ls x0 w hl => ?_) q 0 (by omega) (fun s9 hs9 => absurd hs9 (Nat.not_lt_zero s9)) (by omega) _ _ ls w (lv_sub hl [0, 1] rfl)
  refine lv_iconst (v := zI 1) hx hb wdX12_isDue_35 rfl ?_
  exact e_z F w hr hlocks (nar_z (by omega)) ⟨Or.inl ⟨x0, rfl⟩, rfl⟩ wdX12_isDue_36
