-- how a rule was done; counts
theorem pf9_l {Ps : Nat → Nat → Int} {m i q hv ed hv2 ed2 : Nat} {o : Wo} (hG : ∀ j, j < m → okG (Ps j)) (hk : okW q o) (h1 : lkB q hv hv2) (h2 : lkB q ed ed2) (hi : i < m) : pf9 Ps (q, hv, ed, o) i = pf9 Ps (q, hv2, ed2, o) i := by
  have e := sg9_l (n := i) hG hk h1 h2 (by omega)
  have hok := (dvF_l h1 h2 hk i (fun j hj => hG j (by omega))).2
  show pfF (Ps i) q hv ed 20 (sg9 Ps (q, hv, ed, o) i) = pfF (Ps i) q hv2 ed2 20 (sg9 Ps (q, hv2, ed2, o) i)
  rw [← e.1]
  exact (pfF_l (hG i hi) h1 h2 20 _ hok).1
/-- rules that change nothing -/
noncomputable def idF (Ps : Nat → Nat → Int) (x : Fw) : Nat → Nat
  | 0 => 0
  | r + 1 => if (pf9 Ps x r).2.1 = 0 then idF Ps x r ||| 2 ^ r else idF Ps x r
theorem id_y {Ps : Nat → Nat → Int} {x : Fw} {r : Nat} (h : (pf9 Ps x r).2.1 = 0) : idF Ps x (r + 1) = idF Ps x r ||| 2 ^ r := by rw [idF, if_pos h]
theorem id_n {Ps : Nat → Nat → Int} {x : Fw} {r : Nat} (h : (pf9 Ps x r).2.1 ≠ 0) : idF Ps x (r + 1) = idF Ps x r := by rw [idF, if_neg h]
theorem id_le {Ps : Nat → Nat → Int} {x : Fw} : ∀ {r : Nat}, r ≤ 8 → idF Ps x r < 4096
  | 0, _ => by show 0 < 4096; decide
  | r + 1, h => by
    have h1 := id_le (Ps := Ps) (x := x) (r := r) (by omega)
    by_cases h2 : (pf9 Ps x r).2.1 = 0
    · rw [id_y h2]; exact or_lt12 h1 (by have h9 := p2_b (n := r) (by omega); omega)
    · rw [id_n h2]; exact h1
theorem id_l {Ps : Nat → Nat → Int} {m q hv ed hv2 ed2 : Nat} {o : Wo} (hG : ∀ j, j < m → okG (Ps j)) (hk : okW q o) (h1 : lkB q hv hv2) (h2 : lkB q ed ed2) : ∀ i, i ≤ m → idF Ps (q, hv, ed, o) i = idF Ps (q, hv2, ed2, o) i
  | 0, _ => rfl
  | i + 1, hi => by rw [idF, idF, id_l hG hk h1 h2 i (by omega), pf9_l hG hk h1 h2 (show i < m by omega)]
noncomputable def cnA (Ps : Nat → Nat → Int) (m k tn : Nat) (w : Int) (x : Fw) : Int := if w = 0 then (m : Int) else if w = 1 then (k : Int) else if w = 2 then (tn : Int) else if w = 3 then ((idF Ps x m : Nat) : Int) else -1
section Cn
variable {Ps : Nat → Nat → Int} {m k tn : Nat} {w : Int} {x : Fw}
theorem cnA_0 (h : w = 0) : cnA Ps m k tn w x = (m : Int) := by unfold cnA; rw [if_pos h]
theorem cnA_1 (h : w = 1) : cnA Ps m k tn w x = (k : Int) := by unfold cnA; rw [if_neg (by omega), if_pos h]
theorem cnA_2 (h : w = 2) : cnA Ps m k tn w x = (tn : Int) := by unfold cnA; rw [if_neg (by omega), if_neg (by omega), if_pos h]
theorem cnA_3 (h : w = 3) : cnA Ps m k tn w x = ((idF Ps x m : Nat) : Int) := by unfold cnA; rw [if_neg (by omega), if_neg (by omega), if_neg (by omega), if_pos h]
theorem cnA_d (h : w ≠ 0 ∧ w ≠ 1 ∧ w ≠ 2 ∧ w ≠ 3) : cnA Ps m k tn w x = -1 := by unfold cnA; rw [if_neg (by omega), if_neg (by omega), if_neg (by omega), if_neg (by omega)]
end Cn
theorem al_count {Ps : Nat → Nat → Int} {m k tn q hv ed hv2 ed2 : Nat} {o : Wo} {w : Int} (hG : ∀ j, j < m → okG (Ps j)) (hk : okW q o) (h1 : lkB q hv hv2) (h2 : lkB q ed ed2) : cnA Ps m k tn w (q, hv, ed, o) = cnA Ps m k tn w (q, hv2, ed2, o) := by
  unfold cnA
  rw [id_l hG hk h1 h2 m (Nat.le_refl m)]
theorem wdX0_idleRules_4 : decode cX0_idleRules 4 = .ok (.iload_n 2, 1) := dX0_idleRules_4
theorem wdX0_idleRules_5 : decode cX0_idleRules 5 = .ok (.aload_n 0, 1) := dX0_idleRules_5
theorem wdX0_idleRules_6 : decode cX0_idleRules 6 = .ok (.getfield 41, 3) := dX0_idleRules_6
theorem wdX0_idleRules_9 : decode cX0_idleRules 9 = .ok (.if_icmp .ge 24, 3) := dX0_idleRules_9
theorem wdX0_idleRules_12 : decode cX0_idleRules 12 = .ok (.aload_n 0, 1) := dX0_idleRules_12
theorem wdX0_idleRules_13 : decode cX0_idleRules 13 = .ok (.getfield 34, 3) := dX0_idleRules_13
theorem wdX0_idleRules_16 : decode cX0_idleRules 16 = .ok (.iload_n 2, 1) := dX0_idleRules_16
theorem wdX0_idleRules_17 : decode cX0_idleRules 17 = .ok (.iaload, 1) := dX0_idleRules_17
theorem wdX0_idleRules_18 : decode cX0_idleRules 18 = .ok (.ifCond .ne 9, 3) := dX0_idleRules_18
theorem wdX0_idleRules_27 : decode cX0_idleRules 27 = .ok (.iinc 2 1, 3) := dX0_idleRules_27
theorem wdX0_idleRules_30 : decode cX0_idleRules 30 = .ok (.goto (-26), 3) := dX0_idleRules_30
theorem wdX0_idleRules_21 : decode cX0_idleRules 21 = .ok (.iload_n 1, 1) := dX0_idleRules_21
theorem wdX0_idleRules_22 : decode cX0_idleRules 22 = .ok (.iconst 1, 1) := dX0_idleRules_22
theorem wdX0_idleRules_23 : decode cX0_idleRules 23 = .ok (.iload_n 2, 1) := dX0_idleRules_23
theorem wdX0_idleRules_24 : decode cX0_idleRules 24 = .ok (.ishl, 1) := dX0_idleRules_24
theorem wdX0_idleRules_25 : decode cX0_idleRules 25 = .ok (.ior, 1) := dX0_idleRules_25
theorem wdX0_idleRules_26 : decode cX0_idleRules 26 = .ok (.istore_n 1, 1) := dX0_idleRules_26
set_option maxRecDepth 4000 in
theorem lp_X0_idle {p : Program} {l : Launch} {e : Env} {s : State} {m : MethodId} {args : Array Value} {below : List Frame} {meth : Method} {c : Code} {D : va_G} {B : Nat} {cy : Nat → ClassId} {H0 : Heap} {Q : State → Prop} {M : Mem} {R : Room} {Ps : Nat → Nat → Int} {mr rd k q hv ed : Nat} {o : Wo} {Hs : Nat → Fw} (F : CallFix p m c cX0_idleRules 3 s args TB RX0) (hR1 : 0 ≤ R.frames) (hR2 : 0 ≤ R.locals) (hS : CS M Ps mr (q, hv, ed, o) rd Hs k) (kk : ∀ (t : Nat) (H : Heap) (locs : List Loc) (ls : Array Slot), (t = rd) → Wd D B cy s H0 M H locs → lv_has ls 3 [(1, .int (zI (((idF Ps (q, hv, ed, o) t) : Nat) : Int)))] → W p l e R s m args below meth c H locs 0 0 Q (F0 m 33 ls [])) : ∀ (f : Nat) (t : Nat), (t ≤ rd) → (rd ≤ t + f) → ∀ (H : Heap) (locs : List Loc) (ls : Array Slot), Wd D B cy s H0 M H locs → lv_has ls 3 [(2, .int (zI (t : Int))), (1, .int (zI (((idF Ps (q, hv, ed, o) t) : Nat) : Int))), (0, .ref (B + 22))] → W p l e R s m args below meth c H locs 0 0 Q (F0 m 4 ls []) := by
  have hx := F.1
  have hb := F.2.1
  have hm8 := hS.1.2.1
  have hrd := hS.2.1.2.1
  intro f
  induction f with
  | zero =>
    intro t i0 hf H locs ls w hl
    have hil := id_le (Ps := Ps) (x := (q, hv, ed, o)) (r := t) (by omega)
    refine lv_iload_n hx hb wdX0_idleRules_4 rfl (lv_at hl 0 rfl) ?_
    refine lv_aload_n hx hb wdX0_idleRules_5 rfl (lv_at hl 2 rfl) ?_
    refine f_0_7 F w (a := 22) rfl wtb_183 wdX0_idleRules_6 ?_
    refine r_val (v := (zI (rd : Int))) (hS.2.1.1) ?_
    refine z_icmp_ge (tgt := 33) hx hb (by omega) (by omega) wdX0_idleRules_9 (by decide) (fun c1 => ?_) (fun c1 => False.elim (by omega))
    exact kk t _ _ ls (by omega) w (lv_sub hl [1] rfl)
  | succ f ih =>
    intro t i0 hf H locs ls w hl
    have hil := id_le (Ps := Ps) (x := (q, hv, ed, o)) (r := t) (by omega)
    refine lv_iload_n hx hb wdX0_idleRules_4 rfl (lv_at hl 0 rfl) ?_
    refine lv_aload_n hx hb wdX0_idleRules_5 rfl (lv_at hl 2 rfl) ?_
    refine f_0_7 F w (a := 22) rfl wtb_183 wdX0_idleRules_6 ?_
    refine r_val (v := (zI (rd : Int))) (hS.2.1.1) ?_
    refine z_icmp_ge (tgt := 33) hx hb (by omega) (by omega) wdX0_idleRules_9 (by decide) (fun c1 => ?_) (fun c1 => ?_)
    · exact kk t _ _ ls (by omega) w (lv_sub hl [1] rfl)
    · refine lv_aload_n hx hb wdX0_idleRules_12 rfl (lv_at hl 2 rfl) ?_
      refine f_0_5 F w (a := 22) rfl wtb_188 wdX0_idleRules_13 ?_
      refine lv_iload_n hx hb wdX0_idleRules_16 rfl (lv_at hl 0 rfl) ?_
      refine g_iald F w (a := 26) rfl (j := t) (ix_n (by omega)) (by omega) wdX0_idleRules_17 ?_
      have hcd := hS.2.1.2.2.2 t (by omega)
      refine r_val (v := (zI (((pf9 Ps (q, hv, ed, o) t).2.1 : Nat) : Int))) (hcd.1) ?_
      refine z_if_ne (tgt := 27) hx hb (by omega) wdX0_idleRules_18 (by decide) (fun c2 => ?_) (fun c2 => ?_)
      · refine z_iinc (v := (((t + 1) : Nat) : Int)) (lv' := [(2, .int (zI (((t + 1) : Nat) : Int))), (1, .int (zI (((idF Ps (q, hv, ed, o) t) : Nat) : Int))), (0, .ref (B + 22))]) hx hb wdX0_idleRules_27 hl (k := 0) rfl (by omega) (by decide) rfl (fun ls hl => ?_)
        refine lv_goto (tgt := 4) hx hb wdX0_idleRules_30 (by decide) ?_
        replace hl : lv_has ls 3 [(2, .int (zI (((t + 1) : Nat) : Int))), (1, .int (zI (((idF Ps (q, hv, ed, o) (t + 1)) : Nat) : Int))), (0, .ref (B + 22))] := by rw [id_n (by omega)]; exact hl
        exact ih (t + 1) (by omega) (by omega) _ _ ls w (lv_sub hl [0, 1, 2] rfl)
      · refine lv_iload_n hx hb wdX0_idleRules_21 rfl (lv_at hl 1 rfl) ?_
        refine lv_iconst (v := zI 1) hx hb wdX0_idleRules_22 rfl ?_
        refine lv_iload_n hx hb wdX0_idleRules_23 rfl (lv_at hl 0 rfl) ?_
        refine lv_ishl hx hb wdX0_idleRules_24 ?_
        refine r_val (v := (zI (((2 ^ t) : Nat) : Int))) (zb_shl (n := t) (by omega)) ?_
        have q3 := p2_b (n := t) (by omega)
        refine lv_ior hx hb wdX0_idleRules_25 ?_
        refine r_val (v := (zI ((((idF Ps (q, hv, ed, o) t) ||| (2 ^ t)) : Nat) : Int))) (zb_or (idF Ps (q, hv, ed, o) t) (2 ^ t)) ?_
        have q4 := or_lt12 (a := (idF Ps (q, hv, ed, o) t)) (b := (2 ^ t)) (by omega) (by omega)
        refine lv_istore_n (lv' := [(1, .int (zI ((((idF Ps (q, hv, ed, o) t) ||| (2 ^ t)) : Nat) : Int))), (2, .int (zI (t : Int))), (0, .ref (B + 22))]) hx hb wdX0_idleRules_26 rfl hl (by decide) rfl (fun ls hl => ?_)
        refine z_iinc (v := (((t + 1) : Nat) : Int)) (lv' := [(2, .int (zI (((t + 1) : Nat) : Int))), (1, .int (zI ((((idF Ps (q, hv, ed, o) t) ||| (2 ^ t)) : Nat) : Int))), (0, .ref (B + 22))]) hx hb wdX0_idleRules_27 hl (k := 1) rfl (by omega) (by decide) rfl (fun ls hl => ?_)
        refine lv_goto (tgt := 4) hx hb wdX0_idleRules_30 (by decide) ?_
        replace hl : lv_has ls 3 [(2, .int (zI (((t + 1) : Nat) : Int))), (1, .int (zI (((idF Ps (q, hv, ed, o) (t + 1)) : Nat) : Int))), (0, .ref (B + 22))] := by rw [id_y (by omega)]; exact hl
        exact ih (t + 1) (by omega) (by omega) _ _ ls w (lv_sub hl [0, 1, 2] rfl)
theorem wdX0_idleRules_0 : decode cX0_idleRules 0 = .ok (.iconst 0, 1) := dX0_idleRules_0
theorem wdX0_idleRules_1 : decode cX0_idleRules 1 = .ok (.istore_n 1, 1) := dX0_idleRules_1
theorem wdX0_idleRules_2 : decode cX0_idleRules 2 = .ok (.iconst 0, 1) := dX0_idleRules_2
theorem wdX0_idleRules_3 : decode cX0_idleRules 3 = .ok (.istore_n 2, 1) := dX0_idleRules_3
theorem wdX0_idleRules_33 : decode cX0_idleRules 33 = .ok (.iload_n 1, 1) := dX0_idleRules_33
theorem wdX0_idleRules_34 : decode cX0_idleRules 34 = .ok (.ireturn, 1) := dX0_idleRules_34
set_option maxRecDepth 4000 in
theorem h_idleRules {l : Launch} {D : va_G} {B : Nat} {cy : Nat → ClassId} {M : Mem} {Ps : Nat → Nat → Int} {mr rd k q hv ed : Nat} {o : Wo} {Hs : Nat → Fw} (hS : CS M Ps mr (q, hv, ed, o) rd Hs k) : Ci l D B cy yX0_idleRules cX0_idleRules 3 (some .int) 0 0 [.ref (B + 22)] M (fun r M1 => r = zI ((idF Ps (q, hv, ed, o) rd : Nat) : Int) ∧ M1 = M) := by
  refine s_any (by decide) (Nat.le_of_ble_eq_true rfl) ?_
  intro p e s m below meth c ls F hr hlocks w hl
  have F : CallFix p m c cX0_idleRules 3 s _ TB RX0 := F
  have hx := F.1
  have hb := F.2.1
  have hl : lv_has ls 3 [(0, .ref (B + 22))] := hl
  have hm8 := hS.1.2.1
  have hrd := hS.2.1.2.1
  have hil := id_le (Ps := Ps) (x := (q, hv, ed, o)) (r := rd) (by omega)
  refine lv_iconst (v := zI 0) hx hb wdX0_idleRules_0 rfl ?_
  refine lv_istore_n (lv' := [(1, .int (zI 0)), (0, .ref (B + 22))]) hx hb wdX0_idleRules_1 rfl hl (by decide) rfl (fun ls hl => ?_)
  refine lv_iconst (v := zI 0) hx hb wdX0_idleRules_2 rfl ?_
  refine lv_istore_n (lv' := [(2, .int (zI 0)), (1, .int (zI 0)), (0, .ref (B + 22))]) hx hb wdX0_idleRules_3 rfl hl (by decide) rfl (fun ls hl => ?_)
  refine lp_X0_idle  F (Nat.le_of_ble_eq_true rfl) (Nat.le_of_ble_eq_true rfl) hS (fun t H locs ls x0 w hl => ?_) rd 0 (by omega) (by omega) _ _ ls w (lv_sub hl [0, 1, 2] rfl)
  rw [x0] at hl
  refine lv_iload_n hx hb wdX0_idleRules_33 rfl (lv_at hl 0 rfl) ?_
  exact e_i F w hr hlocks ⟨rfl, rfl⟩ wdX0_idleRules_34
theorem wdX11_count_0 : decode cX11_count 0 = .ok (.iload_n 1, 1) := dX11_count_0
theorem wdX11_count_1 : decode cX11_count 1 = .ok (.tableswitch 78 0 3 #[31, 39, 47, 55], 31) := dX11_count_1
theorem wdX11_count_32 : decode cX11_count 32 = .ok (.aload_n 0, 1) := dX11_count_32
theorem wdX11_count_33 : decode cX11_count 33 = .ok (.getfield 35, 3) := dX11_count_33
theorem wdX11_count_36 : decode cX11_count 36 = .ok (.getfield 118, 3) := dX11_count_36
theorem wtb_368 : Cond.fieldLink "ToneLines" 118 "ToneLines$Derivation" "size" "I" ∈ TB := rtb_116
theorem wdX11_count_39 : decode cX11_count 39 = .ok (.ireturn, 1) := dX11_count_39
theorem wdX11_count_40 : decode cX11_count 40 = .ok (.aload_n 0, 1) := dX11_count_40
theorem wdX11_count_41 : decode cX11_count 41 = .ok (.getfield 47, 3) := dX11_count_41
theorem wdX11_count_44 : decode cX11_count 44 = .ok (.getfield 94, 3) := dX11_count_44
theorem wdX11_count_47 : decode cX11_count 47 = .ok (.ireturn, 1) := dX11_count_47
theorem wdX11_count_48 : decode cX11_count 48 = .ok (.aload_n 0, 1) := dX11_count_48
theorem wdX11_count_49 : decode cX11_count 49 = .ok (.getfield 12, 3) := dX11_count_49
theorem wtb_369 : Cond.fieldLink "ToneLines" 12 "ToneLines" "tape" "LToneLines$Tape;" ∈ TB := rtb_105
theorem wdX11_count_52 : decode cX11_count 52 = .ok (.getfield 78, 3) := dX11_count_52
theorem wtb_370 : Cond.fieldLink "ToneLines" 78 "ToneLines$Tape" "size" "I" ∈ TB := rtb_106
theorem wdX11_count_55 : decode cX11_count 55 = .ok (.ireturn, 1) := dX11_count_55
theorem wdX11_count_56 : decode cX11_count 56 = .ok (.aload_n 0, 1) := dX11_count_56
theorem wdX11_count_57 : decode cX11_count 57 = .ok (.getfield 35, 3) := dX11_count_57
theorem wdX11_count_60 : decode cX11_count 60 = .ok (.aload_n 0, 1) := dX11_count_60
theorem wdX11_count_61 : decode cX11_count 61 = .ok (.getfield 35, 3) := dX11_count_61
theorem wdX11_count_64 : decode cX11_count 64 = .ok (.getfield 118, 3) := dX11_count_64
theorem wdX11_count_67 : decode cX11_count 67 = .ok (.invokevirtual 196, 3) := dX11_count_67
theorem wdX11_count_70 : decode cX11_count 70 = .ok (.pop, 1) := dX11_count_70
theorem wdX11_count_71 : decode cX11_count 71 = .ok (.aload_n 0, 1) := dX11_count_71
theorem wdX11_count_72 : decode cX11_count 72 = .ok (.getfield 35, 3) := dX11_count_72
theorem wdX11_count_75 : decode cX11_count 75 = .ok (.invokevirtual 295, 3) := dX11_count_75
theorem wtk_X0_idleRules : Cond.code yX0_idleRules cX0_idleRules 3 (some .int) ∈ TB := tk_X0_idleRules
theorem wgc_X0_idleRules : GoodIn TB (cw yX0_idleRules cX0_idleRules 3 (some .int)) := goodIn_c2 wtk_X0_idleRules
theorem wtb_371 : Cond.methodLink "ToneLines" 295 yX0_idleRules ∈ TB := tb_393
theorem wtb_372 : Cond.instanceMethod yX0_idleRules ∈ TB := tb_394
theorem wtb_373 : Cond.selects "ToneLines$Derivation" yX0_idleRules yX0_idleRules ∈ TB := tb_395
theorem wgv_X11_295 : GoodIn TB (wsV RX11 295 RX0 yX0_idleRules (cw yX0_idleRules cX0_idleRules 3 (some .int))) := goodIn_4 wtb_371 wtb_372 wtb_373 wtb_199 wgc_X0_idleRules
theorem whv_X0_idleRules : yX0_idleRules.cls = RX0 ∧ yX0_idleRules.cls ≠ "java/lang/invoke/MethodHandle" ∧ yX0_idleRules.cls ≠ "java/lang/invoke/VarHandle" ∧ (parseMethodDescriptor yX0_idleRules.desc).map (fun d => d.parameters.length) = some 0 := hv_X0_idleRules
theorem wdX11_count_78 : decode cX11_count 78 = .ok (.ireturn, 1) := dX11_count_78
theorem wdX11_count_79 : decode cX11_count 79 = .ok (.iconst (-1), 1) := dX11_count_79
theorem wdX11_count_80 : decode cX11_count 80 = .ok (.ireturn, 1) := dX11_count_80
set_option maxRecDepth 4000 in
theorem h_count {l : Launch} {D : va_G} {B : Nat} {cy : Nat → ClassId} {M : Mem} {Ps : Nat → Nat → Int} {mr rd k q hv ed : Nat} {o : Wo} {Hs : Nat → Fw} (hS : CS M Ps mr (q, hv, ed, o) rd Hs k) {tn : Nat} (htn : M.1 1 1 = zI (tn : Int)) (htl : tn ≤ 300) {w9 : Int} (hw9 : rg w9) : Ci l D B cy yX11_count cX11_count 2 (some .int) 6 155 [.ref (B + 0), .int (zI w9)] M (fun r M1 => r = zI (cnA Ps mr k tn w9 (q, hv, ed, o))) := by
  refine s_any (by decide) (Nat.le_of_ble_eq_true rfl) ?_
  intro p e s m below meth c ls F hr hlocks w hl
  have F : CallFix p m c cX11_count 2 s _ TB RX11 := F
  have hx := F.1
  have hb := F.2.1
  have hl : lv_has ls 2 [(0, .ref (B + 0)), (1, .int (zI w9))] := hl
  have hm8 := hS.1.2.1
  have hrd := hS.2.1.2.1
  obtain ⟨nx, hH⟩ := hS.2.2
  have hk12 := hH.2.2.2.1
  refine lv_iload_n hx hb wdX11_count_0 rfl (lv_at hl 1 rfl) ?_
  rcases (show (w9 : Int) = 0 ∨ (w9 : Int) = 1 ∨ (w9 : Int) = 2 ∨ (w9 : Int) = 3 ∨ (w9 ≠ 0 ∧ w9 ≠ 1 ∧ w9 ≠ 2 ∧ w9 ≠ 3) by omega) with c1 | c1 | c1 | c1 | c1
  · refine r_val (v := zI 0) (congrArg zI c1) ?_
    refine lv_tableIn (tgt := 32) hx hb wdX11_count_1 (by decide) (by decide) (off := 31) rfl (by decide) ?_
    refine lv_aload_n hx hb wdX11_count_32 rfl (lv_at hl 0 rfl) ?_
    refine f_11_3 F w (a := 0) rfl wtb_207 wdX11_count_33 ?_
    refine f_0_2 F w (a := 22) rfl wtb_368 wdX11_count_36 ?_
    refine r_val (v := (zI (mr : Int))) (hS.1.1) ?_
    exact e_i F w hr hlocks (congrArg zI (cnA_0 c1).symm) wdX11_count_39
  · refine r_val (v := zI 1) (congrArg zI c1) ?_
    refine lv_tableIn (tgt := 40) hx hb wdX11_count_1 (by decide) (by decide) (off := 39) rfl (by decide) ?_
    refine lv_aload_n hx hb wdX11_count_40 rfl (lv_at hl 0 rfl) ?_
    refine f_11_5 F w (a := 0) rfl wtb_213 wdX11_count_41 ?_
    refine f_2_2 F w (a := 71) rfl wtb_275 wdX11_count_44 ?_
    refine r_val (v := (zI (k : Int))) (hH.2.2.1) ?_
    exact e_i F w hr hlocks (congrArg zI (cnA_1 c1).symm) wdX11_count_47
  · refine r_val (v := zI 2) (congrArg zI c1) ?_
    refine lv_tableIn (tgt := 48) hx hb wdX11_count_1 (by decide) (by decide) (off := 47) rfl (by decide) ?_
    refine lv_aload_n hx hb wdX11_count_48 rfl (lv_at hl 0 rfl) ?_
    refine f_11_0 F w (a := 0) rfl wtb_369 wdX11_count_49 ?_
    refine f_8_1 F w (a := 1) rfl wtb_370 wdX11_count_52 ?_
    refine r_val (v := (zI (tn : Int))) (htn) ?_
    exact e_i F w hr hlocks (congrArg zI (cnA_2 c1).symm) wdX11_count_55
  · refine r_val (v := zI 3) (congrArg zI c1) ?_
    refine lv_tableIn (tgt := 56) hx hb wdX11_count_1 (by decide) (by decide) (off := 55) rfl (by decide) ?_
    refine lv_aload_n hx hb wdX11_count_56 rfl (lv_at hl 0 rfl) ?_
    refine f_11_3 F w (a := 0) rfl wtb_207 wdX11_count_57 ?_
    refine lv_aload_n hx hb wdX11_count_60 rfl (lv_at hl 0 rfl) ?_
    refine f_11_3 F w (a := 0) rfl wtb_207 wdX11_count_61 ?_
    refine f_0_2 F w (a := 22) rfl wtb_368 wdX11_count_64 ?_
    refine r_val (v := (zI (mr : Int))) (hS.1.1) ?_
    refine k_Vr F w (As := [.int (zI (mr : Int))]) (rest := []) (a := 22) (kd_lt (a := 22) (show kd 22 = (0, 0, 0) from rfl) (by decide)) (sh_0 rfl _ _) rfl (g_stageOf hS (n9 := mr) (by omega)) wgv_X11_196 whv_X0_stageOf ⟨(Nat.le_of_ble_eq_true rfl), (Nat.le_of_ble_eq_true rfl)⟩ hl.1 rfl (Nat.le_of_ble_eq_true rfl) ⟨Nat.zero_le _, Nat.zero_le _⟩ wdX11_count_67 (fun r Ma2 H locs hp w => ?_)
    rcases hp with ⟨rfl, rd1, hnr, _, hS1, _⟩
    have hr1 := hS1.2.1.2.1
    obtain rfl : rd1 = mr := by omega
    refine lv_pop hx hb wdX11_count_70 rfl ?_
    refine lv_aload_n hx hb wdX11_count_71 rfl (lv_at hl 0 rfl) ?_
    refine f_11_3 F w (a := 0) rfl wtb_207 wdX11_count_72 ?_
    refine k_Vi F w (As := []) (rest := []) (a := 22) (kd_lt (a := 22) (show kd 22 = (0, 0, 0) from rfl) (by decide)) (sh_0 rfl _ _) rfl (h_idleRules hS1) wgv_X11_295 whv_X0_idleRules ⟨(Nat.le_of_ble_eq_true rfl), (Nat.le_of_ble_eq_true rfl)⟩ hl.1 rfl (Nat.le_of_ble_eq_true rfl) ⟨Nat.zero_le _, Nat.zero_le _⟩ wdX11_count_75 (fun r Ma3 H locs hp w => ?_)
    rcases hp with ⟨rfl, hMe⟩
    rw [hMe] at w
    have hil := id_le (Ps := Ps) (x := (q, hv, ed, o)) (r := rd1) (by omega)
    exact e_i F w hr hlocks (congrArg zI (cnA_3 c1).symm) wdX11_count_78
  · refine lv_tableOut (tgt := 79) hx hb wdX11_count_1 (by rw [zI_toInt (by omega)]; omega) (by decide) ?_
    refine lv_iconst (v := zI (-1)) hx hb wdX11_count_79 rfl ?_
    exact e_i F w hr hlocks (congrArg zI (cnA_d c1).symm) wdX11_count_80
