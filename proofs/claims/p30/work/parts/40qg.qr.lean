theorem wdX12_idle_15 : decode cX12_idle 15 = .ok (.iload_n 2, 1) := dX12_idle_15
theorem wdX12_idle_16 : decode cX12_idle 16 = .ok (.aload_n 0, 1) := dX12_idle_16
theorem wdX12_idle_17 : decode cX12_idle 17 = .ok (.getfield 239, 3) := dX12_idle_17
theorem wdX12_idle_20 : decode cX12_idle 20 = .ok (.if_icmp .ge 23, 3) := dX12_idle_20
theorem wdX12_idle_23 : decode cX12_idle 23 = .ok (.aload_n 0, 1) := dX12_idle_23
theorem wdX12_idle_24 : decode cX12_idle 24 = .ok (.iload_n 2, 1) := dX12_idle_24
theorem wdX12_idle_25 : decode cX12_idle 25 = .ok (.invokevirtual 166, 3) := dX12_idle_25
theorem wdX12_idle_28 : decode cX12_idle 28 = .ok (.ifCond .ne 9, 3) := dX12_idle_28
theorem wdX12_idle_37 : decode cX12_idle 37 = .ok (.iinc 2 1, 3) := dX12_idle_37
theorem wdX12_idle_40 : decode cX12_idle 40 = .ok (.goto (-25), 3) := dX12_idle_40
theorem wdX12_idle_31 : decode cX12_idle 31 = .ok (.iload_n 1, 1) := dX12_idle_31
theorem wdX12_idle_32 : decode cX12_idle 32 = .ok (.iconst 1, 1) := dX12_idle_32
theorem wdX12_idle_33 : decode cX12_idle 33 = .ok (.iload_n 2, 1) := dX12_idle_33
theorem wdX12_idle_34 : decode cX12_idle 34 = .ok (.ishl, 1) := dX12_idle_34
theorem wdX12_idle_35 : decode cX12_idle 35 = .ok (.ior, 1) := dX12_idle_35
theorem wdX12_idle_36 : decode cX12_idle 36 = .ok (.istore_n 1, 1) := dX12_idle_36
set_option maxRecDepth 4000 in
theorem lp_X12_idle {p : Program} {l : Launch} {e : Env} {s : State} {m : MethodId} {args : Array Value} {below : List Frame} {meth : Method} {c : Code} {D : va_G} {B : Nat} {cy : Nat → ClassId} {H0 : Heap} {Q : State → Prop} {M : Mem} {R : Room} {Ps : Nat → Nat → Int} {mr q hv ed : Nat} {o : Wo} (F : CallFix p m c cX12_idle 3 s args TB RX12) (hR1 : 8 ≤ R.frames) (hR2 : 189 ≤ R.locals) (hm8 : mr ≤ 8) (kk : ∀ (t : Nat) (z : Int) (Nm : Mem) (H : Heap) (locs : List Loc) (ls : Array Slot), (t = mr) → Wd D B cy s H0 Nm H locs → lv_has ls 3 [(1, .int (zI (((idF Ps (q, hv, ed, o) t) : Nat) : Int)))] → W p l e R s m args below meth c H locs 0 0 Q (F0 m 43 ls [])) : ∀ (f : Nat) (t : Nat) (z : Int) (Nm : Mem), (t ≤ mr) → (RW Nm q hv ed (sg9 Ps (q, hv, ed, o) t) z) → (GV Nm Ps mr) → (Nm.1 146 5 = zI (mr : Int)) → (mr ≤ t + f) → ∀ (H : Heap) (locs : List Loc) (ls : Array Slot), Wd D B cy s H0 Nm H locs → lv_has ls 3 [(2, .int (zI (t : Int))), (1, .int (zI (((idF Ps (q, hv, ed, o) t) : Nat) : Int))), (0, .ref (B + 146))] → W p l e R s m args below meth c H locs 0 0 Q (F0 m 15 ls []) := by
  have hx := F.1
  have hb := F.2.1
  intro f
  induction f with
  | zero =>
    intro t z Nm i0 i1 i2 i3 hf H locs ls w hl
    have hil := id_le (Ps := Ps) (x := (q, hv, ed, o)) (r := t) (by omega)
    refine lv_iload_n hx hb wdX12_idle_15 rfl (lv_at hl 0 rfl) ?_
    refine lv_aload_n hx hb wdX12_idle_16 rfl (lv_at hl 2 rfl) ?_
    refine f_12_5 F w (a := 146) rfl wtb_291 wdX12_idle_17 ?_
    refine r_val (v := (zI (mr : Int))) (i3) ?_
    refine z_icmp_ge (tgt := 43) hx hb (by omega) (by omega) wdX12_idle_20 (by decide) (fun c1 => ?_) (fun c1 => False.elim (by omega))
    exact kk t z Nm _ _ ls (by omega) w (lv_sub hl [1] rfl)
  | succ f ih =>
    intro t z Nm i0 i1 i2 i3 hf H locs ls w hl
    have hil := id_le (Ps := Ps) (x := (q, hv, ed, o)) (r := t) (by omega)
    refine lv_iload_n hx hb wdX12_idle_15 rfl (lv_at hl 0 rfl) ?_
    refine lv_aload_n hx hb wdX12_idle_16 rfl (lv_at hl 2 rfl) ?_
    refine f_12_5 F w (a := 146) rfl wtb_291 wdX12_idle_17 ?_
    refine r_val (v := (zI (mr : Int))) (i3) ?_
    refine z_icmp_ge (tgt := 43) hx hb (by omega) (by omega) wdX12_idle_20 (by decide) (fun c1 => ?_) (fun c1 => ?_)
    · exact kk t z Nm _ _ ls (by omega) w (lv_sub hl [1] rfl)
    · refine lv_aload_n hx hb wdX12_idle_23 rfl (lv_at hl 2 rfl) ?_
      refine lv_iload_n hx hb wdX12_idle_24 rfl (lv_at hl 0 rfl) ?_
      refine k_Vi F w (As := [.int (zI (t : Int))]) (rest := []) (a := 146) (kd_lt (a := 146) (show kd 146 = (12, 0, 0) from rfl) (by decide)) (sh_12 rfl _ _) rfl (s_X12_works i1 (r := t) (by omega) (i2.2 t (by omega)).1 (i2.2 t (by omega)).2) wgv_X12_166 whv_X12_works ⟨(by omega), (by omega)⟩ hl.1 rfl (Nat.le_of_ble_eq_true rfl) ⟨Nat.zero_le _, Nat.zero_le _⟩ wdX12_idle_25 (fun r Ma2 H locs hp w => ?_)
      rcases hp with ⟨oU, dU, pU, eU, rfl, ⟨zU, hRU⟩, hFU, hpU, hdU, hp20⟩
      refine z_if_ne (tgt := 37) hx hb (by omega) wdX12_idle_28 (by decide) (fun c3 => ?_) (fun c3 => ?_)
      · refine z_iinc (v := (((t + 1) : Nat) : Int)) (lv' := [(2, .int (zI (((t + 1) : Nat) : Int))), (1, .int (zI (((idF Ps (q, hv, ed, o) t) : Nat) : Int))), (0, .ref (B + 146))]) hx hb wdX12_idle_37 hl (k := 0) rfl (by omega) (by decide) rfl (fun ls hl => ?_)
        refine lv_goto (tgt := 15) hx hb wdX12_idle_40 (by decide) ?_
        have e9 : pf9 Ps (q, hv, ed, o) t = (oU, dU, pU) := eU
        replace hl : lv_has ls 3 [(2, .int (zI (((t + 1) : Nat) : Int))), (1, .int (zI (((idF Ps (q, hv, ed, o) (t + 1)) : Nat) : Int))), (0, .ref (B + 146))] := by rw [id_n (by rw [e9]; show dU ≠ 0; omega)]; exact hl
        exact ih (t + 1) zU Ma2 (by omega) (by rw [sg9_s, e9]; exact hRU) (i2.fr (hFU.1 149 (by decide) (by decide))) ((hFU.2.1 5 (by decide) (by decide)).trans i3) (by omega) _ _ ls w (lv_sub hl [0, 1, 2] rfl)
      · refine lv_iload_n hx hb wdX12_idle_31 rfl (lv_at hl 1 rfl) ?_
        refine lv_iconst (v := zI 1) hx hb wdX12_idle_32 rfl ?_
        refine lv_iload_n hx hb wdX12_idle_33 rfl (lv_at hl 0 rfl) ?_
        refine lv_ishl hx hb wdX12_idle_34 ?_
        refine r_val (v := (zI (((2 ^ t) : Nat) : Int))) (zb_shl (n := t) (by omega)) ?_
        have q4 := p2_b (n := t) (by omega)
        refine lv_ior hx hb wdX12_idle_35 ?_
        refine r_val (v := (zI ((((idF Ps (q, hv, ed, o) t) ||| (2 ^ t)) : Nat) : Int))) (zb_or (idF Ps (q, hv, ed, o) t) (2 ^ t)) ?_
        have q5 := or_lt12 (a := (idF Ps (q, hv, ed, o) t)) (b := (2 ^ t)) (by omega) (by omega)
        refine lv_istore_n (lv' := [(1, .int (zI ((((idF Ps (q, hv, ed, o) t) ||| (2 ^ t)) : Nat) : Int))), (2, .int (zI (t : Int))), (0, .ref (B + 146))]) hx hb wdX12_idle_36 rfl hl (by decide) rfl (fun ls hl => ?_)
        refine z_iinc (v := (((t + 1) : Nat) : Int)) (lv' := [(2, .int (zI (((t + 1) : Nat) : Int))), (1, .int (zI ((((idF Ps (q, hv, ed, o) t) ||| (2 ^ t)) : Nat) : Int))), (0, .ref (B + 146))]) hx hb wdX12_idle_37 hl (k := 1) rfl (by omega) (by decide) rfl (fun ls hl => ?_)
        refine lv_goto (tgt := 15) hx hb wdX12_idle_40 (by decide) ?_
        have e9 : pf9 Ps (q, hv, ed, o) t = (oU, dU, pU) := eU
        replace hl : lv_has ls 3 [(2, .int (zI (((t + 1) : Nat) : Int))), (1, .int (zI (((idF Ps (q, hv, ed, o) (t + 1)) : Nat) : Int))), (0, .ref (B + 146))] := by rw [id_y (by rw [e9]; show dU = 0; omega)]; exact hl
        exact ih (t + 1) zU Ma2 (by omega) (by rw [sg9_s, e9]; exact hRU) (i2.fr (hFU.1 149 (by decide) (by decide))) ((hFU.2.1 5 (by decide) (by decide)).trans i3) (by omega) _ _ ls w (lv_sub hl [0, 1, 2] rfl)
theorem wdX12_idle_0 : decode cX12_idle 0 = .ok (.aload_n 0, 1) := dX12_idle_0
theorem wdX12_idle_1 : decode cX12_idle 1 = .ok (.getfield 17, 3) := dX12_idle_1
theorem wdX12_idle_4 : decode cX12_idle 4 = .ok (.aload_n 0, 1) := dX12_idle_4
theorem wdX12_idle_5 : decode cX12_idle 5 = .ok (.getfield 13, 3) := dX12_idle_5
theorem wdX12_idle_8 : decode cX12_idle 8 = .ok (.invokestatic 162, 3) := dX12_idle_8
theorem wdX12_idle_11 : decode cX12_idle 11 = .ok (.iconst 0, 1) := dX12_idle_11
theorem wdX12_idle_12 : decode cX12_idle 12 = .ok (.istore_n 1, 1) := dX12_idle_12
theorem wdX12_idle_13 : decode cX12_idle 13 = .ok (.iconst 0, 1) := dX12_idle_13
theorem wdX12_idle_14 : decode cX12_idle 14 = .ok (.istore_n 2, 1) := dX12_idle_14
theorem wdX12_idle_43 : decode cX12_idle 43 = .ok (.iload_n 1, 1) := dX12_idle_43
theorem wdX12_idle_44 : decode cX12_idle 44 = .ok (.ireturn, 1) := dX12_idle_44
set_option maxRecDepth 4000 in
theorem k_idle {l : Launch} {D : va_G} {B : Nat} {cy : Nat → ClassId} {M : Mem} {Ps : Nat → Nat → Int} {mr k q hv ed : Nat} {o : Wo} {Hs : Nat → Fw} (hS : MS M Ps mr (q, hv, ed, o) Hs k) : Ci l D B cy yX12_idle cX12_idle 3 (some .int) 8 189 [.ref (B + 146)] M (fun r M1 => r = zI ((idF Ps (q, hv, ed, o) mr : Nat) : Int)) := by
  refine s_any (by decide) (Nat.le_of_ble_eq_true rfl) ?_
  intro p e s m below meth c ls F hr hlocks w hl
  have F : CallFix p m c cX12_idle 3 s _ TB RX12 := F
  have hx := F.1
  have hb := F.2.1
  have hl : lv_has ls 3 [(0, .ref (B + 146))] := hl
  have hm8 := hS.1.1
  have hk12 := hS.2.2.2.2.1
  have hC : TW M q hv ed o := hS.T
  have hW : isR M 147 o.1 q hv ed o.2.1 o.2.2 := hC.1
  have hwf := hC.wf
  have hKL := hwf.2.2.2.2
  have hn12 := hwf.1
  have hq12 := hwf.2.1
  have hhv := hwf.2.2.1
  have hed := hwf.2.2.2.1
  have hil := id_le (Ps := Ps) (x := (q, hv, ed, o)) (r := mr) (by omega)
  refine lv_aload_n hx hb wdX12_idle_0 rfl (lv_at hl 0 rfl) ?_
  refine f_12_2 F w (a := 146) rfl wtb_102 wdX12_idle_1 ?_
  refine lv_aload_n hx hb wdX12_idle_4 rfl (lv_at hl 0 rfl) ?_
  refine f_12_1 F w (a := 146) rfl wtb_179 wdX12_idle_5 ?_
  refine k_Sv F w (As := [.ref (B + 148), .ref (B + 147)]) (rest := []) (s_X12_copy (a := 148) (b := 147) rfl rfl (by decide) hW hwf) wgs_X12_162 whs_X12_copy ⟨(Nat.le_of_ble_eq_true rfl), (Nat.le_of_ble_eq_true rfl)⟩ hl.1 rfl (Nat.le_of_ble_eq_true rfl) ⟨Nat.zero_le _, Nat.zero_le _⟩ wdX12_idle_8 (fun Ma1 H locs hp w => ?_)
  rcases hp with ⟨hW2, hF2⟩
  obtain ⟨z9, hR0⟩ := RW.of hW2 hC
  have hS0 := hS.fw (FrQ9.of1 hF2)
  refine lv_iconst (v := zI 0) hx hb wdX12_idle_11 rfl ?_
  refine lv_istore_n (lv' := [(1, .int (zI 0)), (0, .ref (B + 146))]) hx hb wdX12_idle_12 rfl hl (by decide) rfl (fun ls hl => ?_)
  refine lv_iconst (v := zI 0) hx hb wdX12_idle_13 rfl ?_
  refine lv_istore_n (lv' := [(2, .int (zI 0)), (1, .int (zI 0)), (0, .ref (B + 146))]) hx hb wdX12_idle_14 rfl hl (by decide) rfl (fun ls hl => ?_)
  refine lp_X12_idle (M := M) F (Nat.le_of_ble_eq_true rfl) (Nat.le_of_ble_eq_true rfl) hm8 (fun t z Nm H locs ls x0 w hl => ?_) mr 0 z9 Ma1 (by omega) hR0 hS0.1 hS0.2.1 (by omega) _ _ ls w (lv_sub hl [0, 1, 2] rfl)
  rw [x0] at hl
  refine lv_iload_n hx hb wdX12_idle_43 rfl (lv_at hl 0 rfl) ?_
  exact e_i F w hr hlocks rfl wdX12_idle_44
theorem wdX12_count_0 : decode cX12_count 0 = .ok (.iload_n 1, 1) := dX12_count_0
theorem wdX12_count_1 : decode cX12_count 1 = .ok (.tableswitch 51 0 3 #[31, 36, 41, 46], 31) := dX12_count_1
theorem wdX12_count_32 : decode cX12_count 32 = .ok (.aload_n 0, 1) := dX12_count_32
theorem wdX12_count_33 : decode cX12_count 33 = .ok (.getfield 239, 3) := dX12_count_33
theorem wdX12_count_36 : decode cX12_count 36 = .ok (.ireturn, 1) := dX12_count_36
theorem wdX12_count_37 : decode cX12_count 37 = .ok (.aload_n 0, 1) := dX12_count_37
theorem wdX12_count_38 : decode cX12_count 38 = .ok (.getfield 201, 3) := dX12_count_38
theorem wdX12_count_41 : decode cX12_count 41 = .ok (.ireturn, 1) := dX12_count_41
theorem wdX12_count_42 : decode cX12_count 42 = .ok (.aload_n 0, 1) := dX12_count_42
theorem wdX12_count_43 : decode cX12_count 43 = .ok (.getfield 169, 3) := dX12_count_43
theorem wtb_374 : Cond.fieldLink "ToneLinesModel" 169 "ToneLinesModel" "taped" "I" ∈ TB := rtb_121
theorem wdX12_count_46 : decode cX12_count 46 = .ok (.ireturn, 1) := dX12_count_46
theorem wdX12_count_47 : decode cX12_count 47 = .ok (.aload_n 0, 1) := dX12_count_47
theorem wdX12_count_48 : decode cX12_count 48 = .ok (.invokevirtual 324, 3) := dX12_count_48
theorem wtk_X12_idle : Cond.code yX12_idle cX12_idle 3 (some .int) ∈ TB := tk_X12_idle
theorem wgc_X12_idle : GoodIn TB (cw yX12_idle cX12_idle 3 (some .int)) := goodIn_c2 wtk_X12_idle
theorem wtb_375 : Cond.methodLink "ToneLinesModel" 324 yX12_idle ∈ TB := tb_651
theorem wtb_376 : Cond.instanceMethod yX12_idle ∈ TB := tb_652
theorem wtb_377 : Cond.selects "ToneLinesModel" yX12_idle yX12_idle ∈ TB := tb_653
theorem wgv_X12_324 : GoodIn TB (wsV RX12 324 RX12 yX12_idle (cw yX12_idle cX12_idle 3 (some .int))) := goodIn_4 wtb_375 wtb_376 wtb_377 wtb_105 wgc_X12_idle
theorem whv_X12_idle : yX12_idle.cls = RX12 ∧ yX12_idle.cls ≠ "java/lang/invoke/MethodHandle" ∧ yX12_idle.cls ≠ "java/lang/invoke/VarHandle" ∧ (parseMethodDescriptor yX12_idle.desc).map (fun d => d.parameters.length) = some 0 := hv_X12_idle
theorem wdX12_count_51 : decode cX12_count 51 = .ok (.ireturn, 1) := dX12_count_51
theorem wdX12_count_52 : decode cX12_count 52 = .ok (.iconst (-1), 1) := dX12_count_52
theorem wdX12_count_53 : decode cX12_count 53 = .ok (.ireturn, 1) := dX12_count_53
set_option maxRecDepth 4000 in
theorem k_count {l : Launch} {D : va_G} {B : Nat} {cy : Nat → ClassId} {M : Mem} {Ps : Nat → Nat → Int} {mr k q hv ed : Nat} {o : Wo} {Hs : Nat → Fw} (hS : MS M Ps mr (q, hv, ed, o) Hs k) {tn : Nat} (htn : M.1 146 8 = zI (tn : Int)) (htl : tn ≤ 300) {w9 : Int} (hw9 : rg w9) : Ci l D B cy yX12_count cX12_count 2 (some .int) 9 211 [.ref (B + 146), .int (zI w9)] M (fun r M1 => r = zI (cnA Ps mr k tn w9 (q, hv, ed, o))) := by
  refine s_any (by decide) (Nat.le_of_ble_eq_true rfl) ?_
  intro p e s m below meth c ls F hr hlocks w hl
  have F : CallFix p m c cX12_count 2 s _ TB RX12 := F
  have hx := F.1
  have hb := F.2.1
  have hl : lv_has ls 2 [(0, .ref (B + 146)), (1, .int (zI w9))] := hl
  have hm8 := hS.1.1
  have hk12 := hS.2.2.2.2.1
  have hC : TW M q hv ed o := hS.T
  have hW : isR M 147 o.1 q hv ed o.2.1 o.2.2 := hC.1
  have hwf := hC.wf
  have hKL := hwf.2.2.2.2
  have hn12 := hwf.1
  have hq12 := hwf.2.1
  have hhv := hwf.2.2.1
  have hed := hwf.2.2.2.1
  have hk12 := hS.2.2.2.2.1
  refine lv_iload_n hx hb wdX12_count_0 rfl (lv_at hl 1 rfl) ?_
  rcases (show (w9 : Int) = 0 ∨ (w9 : Int) = 1 ∨ (w9 : Int) = 2 ∨ (w9 : Int) = 3 ∨ (w9 ≠ 0 ∧ w9 ≠ 1 ∧ w9 ≠ 2 ∧ w9 ≠ 3) by omega) with c1 | c1 | c1 | c1 | c1
  · refine r_val (v := zI 0) (congrArg zI c1) ?_
    refine lv_tableIn (tgt := 32) hx hb wdX12_count_1 (by decide) (by decide) (off := 31) rfl (by decide) ?_
    refine lv_aload_n hx hb wdX12_count_32 rfl (lv_at hl 0 rfl) ?_
    refine f_12_5 F w (a := 146) rfl wtb_291 wdX12_count_33 ?_
    refine r_val (v := (zI (mr : Int))) (hS.2.1) ?_
    exact e_i F w hr hlocks (congrArg zI (cnA_0 c1).symm) wdX12_count_36
  · refine r_val (v := zI 1) (congrArg zI c1) ?_
    refine lv_tableIn (tgt := 37) hx hb wdX12_count_1 (by decide) (by decide) (off := 36) rfl (by decide) ?_
    refine lv_aload_n hx hb wdX12_count_37 rfl (lv_at hl 0 rfl) ?_
    refine f_12_20 F w (a := 146) rfl wtb_280 wdX12_count_38 ?_
    refine r_val (v := (zI (k : Int))) (hS.2.2.2.1) ?_
    exact e_i F w hr hlocks (congrArg zI (cnA_1 c1).symm) wdX12_count_41
  · refine r_val (v := zI 2) (congrArg zI c1) ?_
    refine lv_tableIn (tgt := 42) hx hb wdX12_count_1 (by decide) (by decide) (off := 41) rfl (by decide) ?_
    refine lv_aload_n hx hb wdX12_count_42 rfl (lv_at hl 0 rfl) ?_
    refine f_12_8 F w (a := 146) rfl wtb_374 wdX12_count_43 ?_
    refine r_val (v := (zI (tn : Int))) (htn) ?_
    exact e_i F w hr hlocks (congrArg zI (cnA_2 c1).symm) wdX12_count_46
  · refine r_val (v := zI 3) (congrArg zI c1) ?_
    refine lv_tableIn (tgt := 47) hx hb wdX12_count_1 (by decide) (by decide) (off := 46) rfl (by decide) ?_
    refine lv_aload_n hx hb wdX12_count_47 rfl (lv_at hl 0 rfl) ?_
    refine k_Vi F w (As := []) (rest := []) (a := 146) (kd_lt (a := 146) (show kd 146 = (12, 0, 0) from rfl) (by decide)) (sh_12 rfl _ _) rfl (k_idle hS) wgv_X12_324 whv_X12_idle ⟨(Nat.le_of_ble_eq_true rfl), (Nat.le_of_ble_eq_true rfl)⟩ hl.1 rfl (Nat.le_of_ble_eq_true rfl) ⟨Nat.zero_le _, Nat.zero_le _⟩ wdX12_count_48 (fun r Ma2 H locs hp w => ?_)
    rcases hp with rfl
    have hil := id_le (Ps := Ps) (x := (q, hv, ed, o)) (r := mr) (by omega)
    exact e_i F w hr hlocks (congrArg zI (cnA_3 c1).symm) wdX12_count_51
  · refine lv_tableOut (tgt := 52) hx hb wdX12_count_1 (by rw [zI_toInt (by omega)]; omega) (by decide) ?_
    refine lv_iconst (v := zI (-1)) hx hb wdX12_count_52 rfl ?_
    exact e_i F w hr hlocks (congrArg zI (cnA_d c1).symm) wdX12_count_53
