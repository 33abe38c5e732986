theorem wtb_301 : Cond.fieldLink "ToneLines$Word" 24 "ToneLines$Word" "kinds" "[I" ∈ TB := tb_7
theorem wdX9_readOf_9 : decode cX9_readOf 9 = .ok (.iload_n 3, 1) := dX9_readOf_9
theorem wdX9_readOf_10 : decode cX9_readOf 10 = .ok (.ifCond .lt 35, 3) := dX9_readOf_10
theorem wdX9_readOf_13 : decode cX9_readOf 13 = .ok (.aload_n 0, 1) := dX9_readOf_13
theorem wdX9_readOf_14 : decode cX9_readOf 14 = .ok (.getfield 28, 3) := dX9_readOf_14
theorem wdX9_readOf_17 : decode cX9_readOf 17 = .ok (.iload_n 3, 1) := dX9_readOf_17
theorem wdX9_readOf_18 : decode cX9_readOf 18 = .ok (.iaload, 1) := dX9_readOf_18
theorem wdX9_readOf_19 : decode cX9_readOf 19 = .ok (.iload_n 1, 1) := dX9_readOf_19
theorem wdX9_readOf_20 : decode cX9_readOf 20 = .ok (.ishr, 1) := dX9_readOf_20
theorem wdX9_readOf_21 : decode cX9_readOf 21 = .ok (.iconst 1, 1) := dX9_readOf_21
theorem wdX9_readOf_22 : decode cX9_readOf 22 = .ok (.iand, 1) := dX9_readOf_22
theorem wdX9_readOf_23 : decode cX9_readOf 23 = .ok (.ifCond .eq 16, 3) := dX9_readOf_23
theorem wdX9_readOf_39 : decode cX9_readOf 39 = .ok (.iinc 3 (-1), 3) := dX9_readOf_39
theorem wdX9_readOf_42 : decode cX9_readOf 42 = .ok (.goto (-33), 3) := dX9_readOf_42
theorem wdX9_readOf_26 : decode cX9_readOf 26 = .ok (.iload_n 2, 1) := dX9_readOf_26
theorem wdX9_readOf_27 : decode cX9_readOf 27 = .ok (.iconst 4, 1) := dX9_readOf_27
theorem wdX9_readOf_28 : decode cX9_readOf 28 = .ok (.imul, 1) := dX9_readOf_28
theorem wdX9_readOf_29 : decode cX9_readOf 29 = .ok (.aload_n 0, 1) := dX9_readOf_29
theorem wdX9_readOf_30 : decode cX9_readOf 30 = .ok (.getfield 24, 3) := dX9_readOf_30
theorem wdX9_readOf_33 : decode cX9_readOf 33 = .ok (.iload_n 3, 1) := dX9_readOf_33
theorem wdX9_readOf_34 : decode cX9_readOf 34 = .ok (.iaload, 1) := dX9_readOf_34
theorem wdX9_readOf_35 : decode cX9_readOf 35 = .ok (.iadd, 1) := dX9_readOf_35
theorem wdX9_readOf_36 : decode cX9_readOf 36 = .ok (.iconst 1, 1) := dX9_readOf_36
theorem wdX9_readOf_37 : decode cX9_readOf 37 = .ok (.iadd, 1) := dX9_readOf_37
theorem wdX9_readOf_38 : decode cX9_readOf 38 = .ok (.istore_n 2, 1) := dX9_readOf_38
set_option maxRecDepth 4000 in
theorem lp_X9_readOf {p : Program} {l : Launch} {e : Env} {s : State} {m : MethodId} {args : Array Value} {below : List Frame} {meth : Method} {c : Code} {D : va_G} {B : Nat} {cy : Nat → ClassId} {H0 : Heap} {Q : State → Prop} {M : Mem} {R : Room} {a q hv ed j9 : Nat} {o : Wo} (F : CallFix p m c cX9_readOf 4 s args TB RX9) (hR1 : 0 ≤ R.frames) (hR2 : 0 ≤ R.locals) (hk : kd a = (9, 0, 0)) (hC : CW M a q hv ed o) (hj9 : j9 < 12) (kk : ∀ (H : Heap) (locs : List Loc) (ls : Array Slot), Wd D B cy s H0 M H locs → lv_has ls 4 [(2, .int (zI (((rdV9 o.2.1 o.2.2 j9 (o.1 - 0) 0) : Nat) : Int)))] → W p l e R s m args below meth c H locs 0 0 Q (F0 m 45 ls [])) : ∀ (k : Nat), (k ≤ o.1) → ∀ (H : Heap) (locs : List Loc) (ls : Array Slot), Wd D B cy s H0 M H locs → lv_has ls 4 [(3, .int (zI ((k : Int) - 1))), (2, .int (zI (((rdV9 o.2.1 o.2.2 j9 (o.1 - k) k) : Nat) : Int))), (0, .ref (B + a)), (1, .int (zI (j9 : Int)))] → W p l e R s m args below meth c H locs 0 0 Q (F0 m 9 ls []) := by
  have hx := F.1
  have hb := F.2.1
  have hW := hC.1
  have hwf := hC.wf
  have hKL := hwf.2.2.2.2
  have hn12 := hwf.1
  have hq12 := hwf.2.1
  have hhv := hwf.2.2.1
  have hed := hwf.2.2.2.1
  intro k
  induction k with
  | zero =>
    intro i0 H locs ls w hl
    have hl : lv_has ls 4 [(3, .int (zI (-1))), (2, .int (zI (((rdV9 o.2.1 o.2.2 j9 (o.1 - 0) 0) : Nat) : Int))), (0, .ref (B + a)), (1, .int (zI (j9 : Int)))] := hl
    have hrb : (rdV9 o.2.1 o.2.2 j9 (o.1 - 0) 0) < 16777216 := Nat.lt_of_lt_of_le (rd_b (o.1 - 0) 0 (fun j _ hj => (hC.2.1.2.2 j (by omega)).1)) (p4_12 (by omega))
    refine lv_iload_n hx hb wdX9_readOf_9 rfl (lv_at hl 0 rfl) ?_
    refine z_if_lt (tgt := 45) hx hb (by omega) wdX9_readOf_10 (by decide) (fun c1 => ?_) (fun c1 => False.elim (by omega))
    exact kk _ _ ls  w (lv_sub hl [1] rfl)
  | succ k ih =>
    intro i0 H locs ls w hl
    have hl : lv_has ls 4 [(3, .int (zI (k : Int))), (2, .int (zI (((rdV9 o.2.1 o.2.2 j9 (o.1 - (k + 1)) (k + 1)) : Nat) : Int))), (0, .ref (B + a)), (1, .int (zI (j9 : Int)))] := by rw [show ((k + 1 : Nat) : Int) - 1 = (k : Int) by omega] at hl; exact hl
    have hrb : (rdV9 o.2.1 o.2.2 j9 (o.1 - (k + 1)) (k + 1)) < 16777216 := Nat.lt_of_lt_of_le (rd_b (o.1 - (k + 1)) (k + 1) (fun j _ hj => (hC.2.1.2.2 j (by omega)).1)) (p4_12 (by omega))
    refine lv_iload_n hx hb wdX9_readOf_9 rfl (lv_at hl 0 rfl) ?_
    refine z_if_lt (tgt := 45) hx hb (by omega) wdX9_readOf_10 (by decide) (fun c1 => False.elim (by omega)) (fun c1 => ?_)
    refine lv_aload_n hx hb wdX9_readOf_13 rfl (lv_at hl 2 rfl) ?_
    refine f_9_5 F w (a := a) hk wtb_227 wdX9_readOf_14 ?_
    refine lv_iload_n hx hb wdX9_readOf_17 rfl (lv_at hl 0 rfl) ?_
    refine g_iald F w (a := (a + 2)) (kd_w2 hk) (j := k) (ix_n (by omega)) (by omega) wdX9_readOf_18 ?_
    have hL1 := (hKL k (by omega)).2
    refine r_val (v := (zI (((o.2.2 k) : Nat) : Int))) (hW.2.2.2.2.2 k (by omega)) ?_
    refine lv_iload_n hx hb wdX9_readOf_19 rfl (lv_at hl 3 rfl) ?_
    refine lv_ishr hx hb wdX9_readOf_20 ?_
    refine r_val (v := (zI ((((o.2.2 k) >>> j9) : Nat) : Int))) (zb_shr (a := (o.2.2 k)) (n := j9) (by omega) (by omega)) ?_
    have q2 := shr_le (o.2.2 k) j9
    refine lv_iconst (v := zI 1) hx hb wdX9_readOf_21 rfl ?_
    refine lv_iand hx hb wdX9_readOf_22 ?_
    refine r_val (v := (zI (((tb (o.2.2 k) j9) : Nat) : Int))) zb_tst ?_
    have q3 := tb01 (o.2.2 k) j9
    refine z_if_eq (tgt := 39) hx hb (by omega) wdX9_readOf_23 (by decide) (fun c4 => ?_) (fun c4 => ?_)
    · refine z_iinc (v := ((k : Int) - 1)) (lv' := [(3, .int (zI ((k : Int) - 1))), (2, .int (zI (((rdV9 o.2.1 o.2.2 j9 (o.1 - (k + 1)) (k + 1)) : Nat) : Int))), (0, .ref (B + a)), (1, .int (zI (j9 : Int)))]) hx hb wdX9_readOf_39 hl (k := 0) rfl (by omega) (by decide) rfl (fun ls hl => ?_)
      refine lv_goto (tgt := 9) hx hb wdX9_readOf_42 (by decide) ?_
      replace hl : lv_has ls 4 [(3, .int (zI ((k : Int) - 1))), (2, .int (zI (((rdV9 o.2.1 o.2.2 j9 (o.1 - k) k) : Nat) : Int))), (0, .ref (B + a)), (1, .int (zI (j9 : Int)))] := by rw [show o.1 - k = (o.1 - (k + 1)) + 1 by omega, rd_n (fun h9 => by have := tbo.mpr h9; omega)]; exact hl
      exact ih (by omega) _ _ ls w (lv_sub hl [0, 1, 2, 3] rfl)
    · refine lv_iload_n hx hb wdX9_readOf_26 rfl (lv_at hl 1 rfl) ?_
      refine lv_iconst (v := zI 4) hx hb wdX9_readOf_27 rfl ?_
      refine z_imul (z := ((((rdV9 o.2.1 o.2.2 j9 (o.1 - (k + 1)) (k + 1)) * 4) : Nat) : Int)) hx hb wdX9_readOf_28 (by omega) ?_
      refine lv_aload_n hx hb wdX9_readOf_29 rfl (lv_at hl 2 rfl) ?_
      refine f_9_4 F w (a := a) hk wtb_301 wdX9_readOf_30 ?_
      refine lv_iload_n hx hb wdX9_readOf_33 rfl (lv_at hl 0 rfl) ?_
      refine g_iald F w (a := (a + 1)) (kd_w1 hk) (j := k) (ix_n (by omega)) (by omega) wdX9_readOf_34 ?_
      have hK4 := (hKL k (by omega)).1
      refine r_val (v := (zI (((o.2.1 k) : Nat) : Int))) (hW.2.2.2.2.1 k (by omega)) ?_
      refine z_iadd (z := (((((rdV9 o.2.1 o.2.2 j9 (o.1 - (k + 1)) (k + 1)) * 4) + (o.2.1 k)) : Nat) : Int)) hx hb wdX9_readOf_35 (by omega) ?_
      refine lv_iconst (v := zI 1) hx hb wdX9_readOf_36 rfl ?_
      refine z_iadd (z := ((((((rdV9 o.2.1 o.2.2 j9 (o.1 - (k + 1)) (k + 1)) * 4) + (o.2.1 k)) + 1) : Nat) : Int)) hx hb wdX9_readOf_37 (by omega) ?_
      refine lv_istore_n (lv' := [(2, .int (zI ((((((rdV9 o.2.1 o.2.2 j9 (o.1 - (k + 1)) (k + 1)) * 4) + (o.2.1 k)) + 1) : Nat) : Int))), (3, .int (zI (k : Int))), (0, .ref (B + a)), (1, .int (zI (j9 : Int)))]) hx hb wdX9_readOf_38 rfl hl (by decide) rfl (fun ls hl => ?_)
      refine z_iinc (v := ((k : Int) - 1)) (lv' := [(3, .int (zI ((k : Int) - 1))), (2, .int (zI ((((((rdV9 o.2.1 o.2.2 j9 (o.1 - (k + 1)) (k + 1)) * 4) + (o.2.1 k)) + 1) : Nat) : Int))), (0, .ref (B + a)), (1, .int (zI (j9 : Int)))]) hx hb wdX9_readOf_39 hl (k := 1) rfl (by omega) (by decide) rfl (fun ls hl => ?_)
      refine lv_goto (tgt := 9) hx hb wdX9_readOf_42 (by decide) ?_
      replace hl : lv_has ls 4 [(3, .int (zI ((k : Int) - 1))), (2, .int (zI (((rdV9 o.2.1 o.2.2 j9 (o.1 - k) k) : Nat) : Int))), (0, .ref (B + a)), (1, .int (zI (j9 : Int)))] := by rw [show o.1 - k = (o.1 - (k + 1)) + 1 by omega, rd_y (tbo.mp (by omega))]; exact hl
      exact ih (by omega) _ _ ls w (lv_sub hl [0, 1, 2, 3] rfl)
theorem wdX9_readOf_0 : decode cX9_readOf 0 = .ok (.iconst 0, 1) := dX9_readOf_0
theorem wdX9_readOf_1 : decode cX9_readOf 1 = .ok (.istore_n 2, 1) := dX9_readOf_1
theorem wdX9_readOf_2 : decode cX9_readOf 2 = .ok (.aload_n 0, 1) := dX9_readOf_2
theorem wdX9_readOf_3 : decode cX9_readOf 3 = .ok (.getfield 9, 3) := dX9_readOf_3
theorem wdX9_readOf_6 : decode cX9_readOf 6 = .ok (.iconst 1, 1) := dX9_readOf_6
theorem wdX9_readOf_7 : decode cX9_readOf 7 = .ok (.isub, 1) := dX9_readOf_7
theorem wdX9_readOf_8 : decode cX9_readOf 8 = .ok (.istore_n 3, 1) := dX9_readOf_8
theorem wdX9_readOf_45 : decode cX9_readOf 45 = .ok (.iload_n 2, 1) := dX9_readOf_45
theorem wdX9_readOf_46 : decode cX9_readOf 46 = .ok (.ireturn, 1) := dX9_readOf_46
set_option maxRecDepth 4000 in
theorem h_readOf {l : Launch} {D : va_G} {B : Nat} {cy : Nat → ClassId} {M : Mem} {a q hv ed : Nat} {o : Wo} (hk : kd a = (9, 0, 0)) (hC : CW M a q hv ed o) {j9 : Nat} (hj9 : j9 < 12) : Ci l D B cy yX9_readOf cX9_readOf 4 (some .int) 0 0 [.ref (B + a), .int (zI (j9 : Int))] M (fun r M1 => r = zI ((rdW9 o j9 : Nat) : Int) ∧ M1 = M) := by
  refine s_any (by decide) (Nat.le_of_ble_eq_true rfl) ?_
  intro p e s m below meth c ls F hr hlocks w hl
  have F : CallFix p m c cX9_readOf 4 s _ TB RX9 := F
  have hx := F.1
  have hb := F.2.1
  have hl : lv_has ls 4 [(0, .ref (B + a)), (1, .int (zI (j9 : Int)))] := hl
  have hW := hC.1
  have hwf := hC.wf
  have hKL := hwf.2.2.2.2
  have hn12 := hwf.1
  have hq12 := hwf.2.1
  have hhv := hwf.2.2.1
  have hed := hwf.2.2.2.1
  refine lv_iconst (v := zI 0) hx hb wdX9_readOf_0 rfl ?_
  refine lv_istore_n (lv' := [(2, .int (zI 0)), (0, .ref (B + a)), (1, .int (zI (j9 : Int)))]) hx hb wdX9_readOf_1 rfl hl (by decide) rfl (fun ls hl => ?_)
  refine lv_aload_n hx hb wdX9_readOf_2 rfl (lv_at hl 1 rfl) ?_
  refine f_9_0 F w (a := a) hk wtb_226 wdX9_readOf_3 ?_
  refine r_val (v := (zI ((o.1 : Nat) : Int))) (hW.1) ?_
  refine lv_iconst (v := zI 1) hx hb wdX9_readOf_6 rfl ?_
  refine z_isub (z := (((o.1 : Nat) : Int) - 1)) hx hb wdX9_readOf_7 (by omega) ?_
  refine lv_istore_n (lv' := [(3, .int (zI (((o.1 : Nat) : Int) - 1))), (2, .int (zI 0)), (0, .ref (B + a)), (1, .int (zI (j9 : Int)))]) hx hb wdX9_readOf_8 rfl hl (by decide) rfl (fun ls hl => ?_)
  replace hl : lv_has ls 4 [(3, .int (zI (((o.1 : Nat) : Int) - 1))), (2, .int (zI (((rdV9 o.2.1 o.2.2 j9 (o.1 - o.1) o.1) : Nat) : Int))), (0, .ref (B + a)), (1, .int (zI (j9 : Int)))] := by rw [Nat.sub_self]; exact hl
  refine lp_X9_readOf F (Nat.le_of_ble_eq_true rfl) (Nat.le_of_ble_eq_true rfl) hk hC hj9 (fun H locs ls  w hl => ?_) o.1 (Nat.le_refl _) _ _ ls w (lv_sub hl [0, 1, 2, 3] rfl)
  refine lv_iload_n hx hb wdX9_readOf_45 rfl (lv_at hl 0 rfl) ?_
  exact e_i F w hr hlocks ⟨rfl, rfl⟩ wdX9_readOf_46
