theorem wdX9_kindsRead_20 : decode cX9_kindsRead 20 = .ok (.iload 4, 2) := dX9_kindsRead_20
theorem wdX9_kindsRead_22 : decode cX9_kindsRead 22 = .ok (.ifCond .eq 31, 3) := dX9_kindsRead_22
theorem wdX9_kindsRead_25 : decode cX9_kindsRead 25 = .ok (.lload_n 1, 1) := dX9_kindsRead_25
theorem wdX9_kindsRead_26 : decode cX9_kindsRead 26 = .ok (.ldc2_w 78, 3) := dX9_kindsRead_26
theorem wtb_378 : Cond.constantLong "ToneLines$Word" 78 4 ∈ TB := tb_104
theorem wdX9_kindsRead_29 : decode cX9_kindsRead 29 = .ok (.lmul, 1) := dX9_kindsRead_29
theorem wdX9_kindsRead_30 : decode cX9_kindsRead 30 = .ok (.aload_n 0, 1) := dX9_kindsRead_30
theorem wdX9_kindsRead_31 : decode cX9_kindsRead 31 = .ok (.getfield 24, 3) := dX9_kindsRead_31
theorem wdX9_kindsRead_34 : decode cX9_kindsRead 34 = .ok (.iload_n 3, 1) := dX9_kindsRead_34
theorem wdX9_kindsRead_35 : decode cX9_kindsRead 35 = .ok (.iaload, 1) := dX9_kindsRead_35
theorem wdX9_kindsRead_36 : decode cX9_kindsRead 36 = .ok (.i2l, 1) := dX9_kindsRead_36
theorem wdX9_kindsRead_37 : decode cX9_kindsRead 37 = .ok (.ladd, 1) := dX9_kindsRead_37
theorem wdX9_kindsRead_38 : decode cX9_kindsRead 38 = .ok (.lconst 1, 1) := dX9_kindsRead_38
theorem wdX9_kindsRead_39 : decode cX9_kindsRead 39 = .ok (.ladd, 1) := dX9_kindsRead_39
theorem wdX9_kindsRead_40 : decode cX9_kindsRead 40 = .ok (.lstore_n 1, 1) := dX9_kindsRead_40
theorem wdX9_kindsRead_41 : decode cX9_kindsRead 41 = .ok (.iload 4, 2) := dX9_kindsRead_41
theorem wdX9_kindsRead_43 : decode cX9_kindsRead 43 = .ok (.iload 4, 2) := dX9_kindsRead_43
theorem wdX9_kindsRead_45 : decode cX9_kindsRead 45 = .ok (.iconst 1, 1) := dX9_kindsRead_45
theorem wdX9_kindsRead_46 : decode cX9_kindsRead 46 = .ok (.isub, 1) := dX9_kindsRead_46
theorem wdX9_kindsRead_47 : decode cX9_kindsRead 47 = .ok (.iand, 1) := dX9_kindsRead_47
theorem wdX9_kindsRead_48 : decode cX9_kindsRead 48 = .ok (.istore 4, 2) := dX9_kindsRead_48
theorem wdX9_kindsRead_50 : decode cX9_kindsRead 50 = .ok (.goto (-30), 3) := dX9_kindsRead_50
set_option maxRecDepth 4000 in
theorem lp_X9_kindsRead2 {p : Program} {l : Launch} {e : Env} {s : State} {m : MethodId} {args : Array Value} {below : List Frame} {meth : Method} {c : Code} {D : va_G} {B : Nat} {cy : Nat → ClassId} {H0 : Heap} {Q : State → Prop} {M : Mem} {R : Room} {a q hv ed t : Nat} {o : Wo} (F : CallFix p m c cX9_kindsRead 5 s args TB RX9) (hR1 : 0 ≤ R.frames) (hR2 : 0 ≤ R.locals) (hk : kd a = (9, 0, 0)) (hC : CW M a q hv ed o) (ht : t < o.1) (kk : ∀ (x : Nat) (i : Nat) (H : Heap) (locs : List Loc) (ls : Array Slot), Wd D B cy s H0 M H locs → lv_has ls 5 [(3, .int (zI (t : Int))), (1, .long (nL (kvr (sqR o.2.1 o.2.2 (t + 1))))), (0, .ref (B + a))] → W p l e R s m args below meth c H locs 0 0 Q (F0 m 53 ls [])) : ∀ (f : Nat) (x : Nat) (i : Nat), (x < 4096) → (i + pop x = pop (o.2.2 t)) → (pop x ≤ f) → ∀ (H : Heap) (locs : List Loc) (ls : Array Slot), Wd D B cy s H0 M H locs → lv_has ls 5 [(4, .int (zI (x : Int))), (3, .int (zI (t : Int))), (1, .long (nL (kvT o.2.1 o.2.2 t i))), (0, .ref (B + a))] → W p l e R s m args below meth c H locs 0 0 Q (F0 m 20 ls []) := by
  have hx := F.1
  have hb := F.2.1
  have hW := hC.1
  have hwf := hC.wf
  have hKL := hwf.2.2.2.2
  have hn12 := hwf.1
  have hq12 := hwf.2.1
  have hhv := hwf.2.2.1
  have hed := hwf.2.2.2.1
  intro f
  induction f with
  | zero =>
    intro x i i0 i1 hf H locs ls w hl
    have hz9 := (pop_le x i0).2
    refine lv_iload hx hb wdX9_kindsRead_20 (lv_at hl 0 rfl) ?_
    refine z_if_eq (tgt := 53) hx hb (by omega) wdX9_kindsRead_22 (by decide) (fun c1 => ?_) (fun c1 => False.elim (by omega))
    replace hl : lv_has ls 5 [(4, .int (zI (x : Int))), (3, .int (zI (t : Int))), (1, .long (nL (kvr (sqR o.2.1 o.2.2 (t + 1))))), (0, .ref (B + a))] := by rw [← kvT_e (i := i) (by have := pop_00 (m := x) (by omega); omega)]; exact hl
    exact kk x i _ _ ls  w (lv_sub hl [1, 2, 3] rfl)
  | succ f ih =>
    intro x i i0 i1 hf H locs ls w hl
    have hz9 := (pop_le x i0).2
    refine lv_iload hx hb wdX9_kindsRead_20 (lv_at hl 0 rfl) ?_
    refine z_if_eq (tgt := 53) hx hb (by omega) wdX9_kindsRead_22 (by decide) (fun c1 => ?_) (fun c1 => ?_)
    · replace hl : lv_has ls 5 [(4, .int (zI (x : Int))), (3, .int (zI (t : Int))), (1, .long (nL (kvr (sqR o.2.1 o.2.2 (t + 1))))), (0, .ref (B + a))] := by rw [← kvT_e (i := i) (by have := pop_00 (m := x) (by omega); omega)]; exact hl
      exact kk x i _ _ ls  w (lv_sub hl [1, 2, 3] rfl)
    · refine lv_lload_n hx hb wdX9_kindsRead_25 rfl (lv_at hl 2 rfl) ?_
      refine lv_ldc2 hx hb F.2.2.2.1 (F.2.2.2.2 _ wtb_378) wdX9_kindsRead_26 ?_
      refine lv_lmul hx hb wdX9_kindsRead_29 ?_
      refine lv_aload_n hx hb wdX9_kindsRead_30 rfl (lv_at hl 3 rfl) ?_
      refine f_9_4 F w (a := a) hk wtb_301 wdX9_kindsRead_31 ?_
      refine lv_iload_n hx hb wdX9_kindsRead_34 rfl (lv_at hl 1 rfl) ?_
      refine g_iald F w (a := (a + 1)) (kd_w1 hk) (j := t) (ix_n (by omega)) (by omega) wdX9_kindsRead_35 ?_
      have hK1 := (hKL t (by omega)).1
      refine r_val (v := (zI (((o.2.1 t) : Nat) : Int))) (hW.2.2.2.2.1 t (by omega)) ?_
      refine lv_i2l hx hb wdX9_kindsRead_36 rfl ?_
      refine lv_ladd hx hb wdX9_kindsRead_37 ?_
      refine lv_lconst (v := 1) hx hb wdX9_kindsRead_38 (by decide) ?_
      refine lv_ladd hx hb wdX9_kindsRead_39 ?_
      refine r_vall (v := (nL (kvT o.2.1 o.2.2 t (i + 1)))) ((kv_step (hKL t (by omega)).1).trans (congrArg nL kvT_s)) ?_
      refine lv_lstore_n (lv' := [(1, .long (nL (kvT o.2.1 o.2.2 t (i + 1)))), (4, .int (zI (x : Int))), (3, .int (zI (t : Int))), (0, .ref (B + a))]) hx hb wdX9_kindsRead_40 rfl hl (by decide) rfl (fun ls hl => ?_)
      refine lv_iload hx hb wdX9_kindsRead_41 (lv_at hl 1 rfl) ?_
      refine lv_iload hx hb wdX9_kindsRead_43 (lv_at hl 1 rfl) ?_
      refine lv_iconst (v := zI 1) hx hb wdX9_kindsRead_45 rfl ?_
      refine z_isub (z := ((x : Int) - 1)) hx hb wdX9_kindsRead_46 (by omega) ?_
      refine r_val (v := (zI (((x - 1) : Nat) : Int))) (congrArg zI (by omega)) ?_
      refine lv_iand hx hb wdX9_kindsRead_47 ?_
      refine r_val (v := (zI (((x &&& (x - 1)) : Nat) : Int))) (zb_and x (x - 1)) ?_
      have q2 := (Nat.and_le_left : x &&& (x - 1) ≤ _)
      refine lv_istore (lv' := [(4, .int (zI (((x &&& (x - 1)) : Nat) : Int))), (1, .long (nL (kvT o.2.1 o.2.2 t (i + 1)))), (3, .int (zI (t : Int))), (0, .ref (B + a))]) hx hb wdX9_kindsRead_48 hl (by decide) rfl (fun ls hl => ?_)
      refine lv_goto (tgt := 20) hx hb wdX9_kindsRead_50 (by decide) ?_
      have hpd := pop_dec x i0 (by omega)
      have hla : x &&& (x - 1) ≤ x := Nat.and_le_left
      exact ih (x &&& (x - 1)) (i + 1) (by omega) (by omega) (by omega) _ _ ls w (lv_sub hl [0, 2, 1, 3] rfl)
theorem wdX9_kindsRead_4 : decode cX9_kindsRead 4 = .ok (.iload_n 3, 1) := dX9_kindsRead_4
theorem wdX9_kindsRead_5 : decode cX9_kindsRead 5 = .ok (.aload_n 0, 1) := dX9_kindsRead_5
theorem wdX9_kindsRead_6 : decode cX9_kindsRead 6 = .ok (.getfield 9, 3) := dX9_kindsRead_6
theorem wdX9_kindsRead_9 : decode cX9_kindsRead 9 = .ok (.if_icmp .ge 50, 3) := dX9_kindsRead_9
theorem wdX9_kindsRead_12 : decode cX9_kindsRead 12 = .ok (.aload_n 0, 1) := dX9_kindsRead_12
theorem wdX9_kindsRead_13 : decode cX9_kindsRead 13 = .ok (.getfield 28, 3) := dX9_kindsRead_13
theorem wdX9_kindsRead_16 : decode cX9_kindsRead 16 = .ok (.iload_n 3, 1) := dX9_kindsRead_16
theorem wdX9_kindsRead_17 : decode cX9_kindsRead 17 = .ok (.iaload, 1) := dX9_kindsRead_17
theorem wdX9_kindsRead_18 : decode cX9_kindsRead 18 = .ok (.istore 4, 2) := dX9_kindsRead_18
theorem wdX9_kindsRead_53 : decode cX9_kindsRead 53 = .ok (.iinc 3 1, 3) := dX9_kindsRead_53
theorem wdX9_kindsRead_56 : decode cX9_kindsRead 56 = .ok (.goto (-52), 3) := dX9_kindsRead_56
set_option maxRecDepth 4000 in
theorem lp_X9_kindsRead {p : Program} {l : Launch} {e : Env} {s : State} {m : MethodId} {args : Array Value} {below : List Frame} {meth : Method} {c : Code} {D : va_G} {B : Nat} {cy : Nat → ClassId} {H0 : Heap} {Q : State → Prop} {M : Mem} {R : Room} {a q hv ed : Nat} {o : Wo} (F : CallFix p m c cX9_kindsRead 5 s args TB RX9) (hR1 : 0 ≤ R.frames) (hR2 : 0 ≤ R.locals) (hk : kd a = (9, 0, 0)) (hC : CW M a q hv ed o) (kk : ∀ (t : Nat) (H : Heap) (locs : List Loc) (ls : Array Slot), (t = o.1) → Wd D B cy s H0 M H locs → lv_has ls 5 [(1, .long (nL (kvr (sqR o.2.1 o.2.2 t))))] → W p l e R s m args below meth c H locs 0 0 Q (F0 m 59 ls [])) : ∀ (f : Nat) (t : Nat), (t ≤ o.1) → (o.1 ≤ t + f) → ∀ (H : Heap) (locs : List Loc) (ls : Array Slot), Wd D B cy s H0 M H locs → lv_has ls 5 [(3, .int (zI (t : Int))), (1, .long (nL (kvr (sqR o.2.1 o.2.2 t)))), (0, .ref (B + a))] → W p l e R s m args below meth c H locs 0 0 Q (F0 m 4 ls []) := by
  have hx := F.1
  have hb := F.2.1
  have hW := hC.1
  have hwf := hC.wf
  have hKL := hwf.2.2.2.2
  have hn12 := hwf.1
  have hq12 := hwf.2.1
  have hhv := hwf.2.2.1
  have hed := hwf.2.2.2.1
  intro f
  induction f with
  | zero =>
    intro t i0 hf H locs ls w hl
    refine lv_iload_n hx hb wdX9_kindsRead_4 rfl (lv_at hl 0 rfl) ?_
    refine lv_aload_n hx hb wdX9_kindsRead_5 rfl (lv_at hl 2 rfl) ?_
    refine f_9_0 F w (a := a) hk wtb_226 wdX9_kindsRead_6 ?_
    refine r_val (v := (zI ((o.1 : Nat) : Int))) (hW.1) ?_
    refine z_icmp_ge (tgt := 59) hx hb (by omega) (by omega) wdX9_kindsRead_9 (by decide) (fun c1 => ?_) (fun c1 => False.elim (by omega))
    exact kk t _ _ ls (by omega) w (lv_sub hl [1] rfl)
  | succ f ih =>
    intro t i0 hf H locs ls w hl
    refine lv_iload_n hx hb wdX9_kindsRead_4 rfl (lv_at hl 0 rfl) ?_
    refine lv_aload_n hx hb wdX9_kindsRead_5 rfl (lv_at hl 2 rfl) ?_
    refine f_9_0 F w (a := a) hk wtb_226 wdX9_kindsRead_6 ?_
    refine r_val (v := (zI ((o.1 : Nat) : Int))) (hW.1) ?_
    refine z_icmp_ge (tgt := 59) hx hb (by omega) (by omega) wdX9_kindsRead_9 (by decide) (fun c1 => ?_) (fun c1 => ?_)
    · exact kk t _ _ ls (by omega) w (lv_sub hl [1] rfl)
    · refine lv_aload_n hx hb wdX9_kindsRead_12 rfl (lv_at hl 2 rfl) ?_
      refine f_9_5 F w (a := a) hk wtb_227 wdX9_kindsRead_13 ?_
      refine lv_iload_n hx hb wdX9_kindsRead_16 rfl (lv_at hl 0 rfl) ?_
      refine g_iald F w (a := (a + 2)) (kd_w2 hk) (j := t) (ix_n (by omega)) (by omega) wdX9_kindsRead_17 ?_
      have hL1 := (hKL t (by omega)).2
      refine r_val (v := (zI (((o.2.2 t) : Nat) : Int))) (hW.2.2.2.2.2 t (by omega)) ?_
      refine lv_istore (lv' := [(4, .int (zI (((o.2.2 t) : Nat) : Int))), (3, .int (zI (t : Int))), (1, .long (nL (kvr (sqR o.2.1 o.2.2 t)))), (0, .ref (B + a))]) hx hb wdX9_kindsRead_18 hl (by decide) rfl (fun ls hl => ?_)
      replace hl : lv_has ls 5 [(4, .int (zI (((o.2.2 t) : Nat) : Int))), (3, .int (zI (t : Int))), (1, .long (nL (kvT o.2.1 o.2.2 t 0))), (0, .ref (B + a))] := hl
      refine lp_X9_kindsRead2  F (by omega) (by omega) hk hC (by omega) (fun x i H locs ls  w hl => ?_) (pop (o.2.2 t)) (o.2.2 t) 0 (by omega) (by omega) (by omega) _ _ ls w (lv_sub hl [0, 1, 2, 3] rfl)
      refine z_iinc (v := (((t + 1) : Nat) : Int)) (lv' := [(3, .int (zI (((t + 1) : Nat) : Int))), (1, .long (nL (kvr (sqR o.2.1 o.2.2 (t + 1))))), (0, .ref (B + a))]) hx hb wdX9_kindsRead_53 hl (k := 0) rfl (by omega) (by decide) rfl (fun ls hl => ?_)
      refine lv_goto (tgt := 4) hx hb wdX9_kindsRead_56 (by decide) ?_
      exact ih (t + 1) (by omega) (by omega) _ _ ls w (lv_sub hl [0, 1, 2] rfl)
theorem wdX9_kindsRead_0 : decode cX9_kindsRead 0 = .ok (.lconst 0, 1) := dX9_kindsRead_0
theorem wdX9_kindsRead_1 : decode cX9_kindsRead 1 = .ok (.lstore_n 1, 1) := dX9_kindsRead_1
theorem wdX9_kindsRead_2 : decode cX9_kindsRead 2 = .ok (.iconst 0, 1) := dX9_kindsRead_2
theorem wdX9_kindsRead_3 : decode cX9_kindsRead 3 = .ok (.istore_n 3, 1) := dX9_kindsRead_3
theorem wdX9_kindsRead_59 : decode cX9_kindsRead 59 = .ok (.lload_n 1, 1) := dX9_kindsRead_59
theorem wdX9_kindsRead_60 : decode cX9_kindsRead 60 = .ok (.lreturn, 1) := dX9_kindsRead_60
set_option maxRecDepth 4000 in
theorem h_kindsRead {l : Launch} {D : va_G} {B : Nat} {cy : Nat → ClassId} {M : Mem} {a q hv ed : Nat} {o : Wo} (hk : kd a = (9, 0, 0)) (hC : CW M a q hv ed o) : Cl l D B cy yX9_kindsRead cX9_kindsRead 5 0 0 [.ref (B + a)] M (fun r M1 => r = (nL (kvr (sqR o.2.1 o.2.2 o.1))) ∧ M1 = M) := by
  refine s_any (by decide) (Nat.le_of_ble_eq_true rfl) ?_
  intro p e s m below meth c ls F hr hlocks w hl
  have F : CallFix p m c cX9_kindsRead 5 s _ TB RX9 := F
  have hx := F.1
  have hb := F.2.1
  have hl : lv_has ls 5 [(0, .ref (B + a))] := hl
  have hW := hC.1
  have hwf := hC.wf
  have hKL := hwf.2.2.2.2
  have hn12 := hwf.1
  have hq12 := hwf.2.1
  have hhv := hwf.2.2.1
  have hed := hwf.2.2.2.1
  refine lv_lconst (v := 0) hx hb wdX9_kindsRead_0 (by decide) ?_
  refine lv_lstore_n (lv' := [(1, .long (0 : Int64)), (0, .ref (B + a))]) hx hb wdX9_kindsRead_1 rfl hl (by decide) rfl (fun ls hl => ?_)
  refine lv_iconst (v := zI 0) hx hb wdX9_kindsRead_2 rfl ?_
  refine lv_istore_n (lv' := [(3, .int (zI 0)), (1, .long (0 : Int64)), (0, .ref (B + a))]) hx hb wdX9_kindsRead_3 rfl hl (by decide) rfl (fun ls hl => ?_)
  replace hl : lv_has ls 5 [(3, .int (zI 0)), (1, .long (nL (kvr (sqR o.2.1 o.2.2 0)))), (0, .ref (B + a))] := hl
  refine lp_X9_kindsRead  F (Nat.le_of_ble_eq_true rfl) (Nat.le_of_ble_eq_true rfl) hk hC (fun t H locs ls x0 w hl => ?_) o.1 0 (by omega) (by omega) _ _ ls w (lv_sub hl [0, 1, 2] rfl)
  rw [x0] at hl
  refine lv_lload_n hx hb wdX9_kindsRead_59 rfl (lv_at hl 0 rfl) ?_
  exact e_l F w hr hlocks ⟨rfl, rfl⟩ wdX9_kindsRead_60
theorem wdX9_linesRead_20 : decode cX9_linesRead 20 = .ok (.iload 4, 2) := dX9_linesRead_20
theorem wdX9_linesRead_22 : decode cX9_linesRead 22 = .ok (.ifCond .eq 27, 3) := dX9_linesRead_22
theorem wdX9_linesRead_25 : decode cX9_linesRead 25 = .ok (.lload_n 1, 1) := dX9_linesRead_25
theorem wdX9_linesRead_26 : decode cX9_linesRead 26 = .ok (.lconst 1, 1) := dX9_linesRead_26
theorem wdX9_linesRead_27 : decode cX9_linesRead 27 = .ok (.iconst 4, 1) := dX9_linesRead_27
theorem wdX9_linesRead_28 : decode cX9_linesRead 28 = .ok (.iload 4, 2) := dX9_linesRead_28
theorem wdX9_linesRead_30 : decode cX9_linesRead 30 = .ok (.invokestatic 75, 3) := dX9_linesRead_30
theorem wdX9_linesRead_33 : decode cX9_linesRead 33 = .ok (.imul, 1) := dX9_linesRead_33
theorem wdX9_linesRead_34 : decode cX9_linesRead 34 = .ok (.lshl, 1) := dX9_linesRead_34
theorem wdX9_linesRead_35 : decode cX9_linesRead 35 = .ok (.ladd, 1) := dX9_linesRead_35
theorem wdX9_linesRead_36 : decode cX9_linesRead 36 = .ok (.lstore_n 1, 1) := dX9_linesRead_36
theorem wdX9_linesRead_37 : decode cX9_linesRead 37 = .ok (.iload 4, 2) := dX9_linesRead_37
theorem wdX9_linesRead_39 : decode cX9_linesRead 39 = .ok (.iload 4, 2) := dX9_linesRead_39
theorem wdX9_linesRead_41 : decode cX9_linesRead 41 = .ok (.iconst 1, 1) := dX9_linesRead_41
theorem wdX9_linesRead_42 : decode cX9_linesRead 42 = .ok (.isub, 1) := dX9_linesRead_42
theorem wdX9_linesRead_43 : decode cX9_linesRead 43 = .ok (.iand, 1) := dX9_linesRead_43
theorem wdX9_linesRead_44 : decode cX9_linesRead 44 = .ok (.istore 4, 2) := dX9_linesRead_44
theorem wdX9_linesRead_46 : decode cX9_linesRead 46 = .ok (.goto (-26), 3) := dX9_linesRead_46
set_option maxRecDepth 4000 in
theorem lp_X9_linesRead2 {p : Program} {l : Launch} {e : Env} {s : State} {m : MethodId} {args : Array Value} {below : List Frame} {meth : Method} {c : Code} {D : va_G} {B : Nat} {cy : Nat → ClassId} {H0 : Heap} {Q : State → Prop} {M : Mem} {R : Room} {a q hv ed t : Nat} {o : Wo} (F : CallFix p m c cX9_linesRead 5 s args TB RX9) (hR1 : 2 ≤ R.frames) (hR2 : 40 ≤ R.locals) (hk : kd a = (9, 0, 0)) (hC : CW M a q hv ed o) (ht : t < o.1) (kk : ∀ (x : Nat) (i : Nat) (H : Heap) (locs : List Loc) (ls : Array Slot), Wd D B cy s H0 M H locs → lv_has ls 5 [(3, .int (zI (t : Int))), (1, .long (nL (lrF o.2.2 (t + 1)))), (0, .ref (B + a))] → W p l e R s m args below meth c H locs 0 0 Q (F0 m 49 ls [])) : ∀ (f : Nat) (x : Nat) (i : Nat), (x < 4096) → (i + bsF x = bsF (o.2.2 t)) → (pop x ≤ f) → ∀ (H : Heap) (locs : List Loc) (ls : Array Slot), Wd D B cy s H0 M H locs → lv_has ls 5 [(4, .int (zI (x : Int))), (3, .int (zI (t : Int))), (1, .long (nL (lrF o.2.2 t + i))), (0, .ref (B + a))] → W p l e R s m args below meth c H locs 0 0 Q (F0 m 20 ls []) := by
  have hx := F.1
  have hb := F.2.1
  have hW := hC.1
  have hwf := hC.wf
  have hKL := hwf.2.2.2.2
  have hn12 := hwf.1
  have hq12 := hwf.2.1
  have hhv := hwf.2.2.1
  have hed := hwf.2.2.2.1
  intro f
  induction f with
  | zero =>
    intro x i i0 i1 hf H locs ls w hl
    have hz9 := (pop_le x i0).2
    refine lv_iload hx hb wdX9_linesRead_20 (lv_at hl 0 rfl) ?_
    refine z_if_eq (tgt := 49) hx hb (by omega) wdX9_linesRead_22 (by decide) (fun c1 => ?_) (fun c1 => False.elim (by omega))
    replace hl : lv_has ls 5 [(4, .int (zI (x : Int))), (3, .int (zI (t : Int))), (1, .long (nL (lrF o.2.2 (t + 1)))), (0, .ref (B + a))] := by rw [show lrF o.2.2 (t + 1) = lrF o.2.2 t + i by show lrF o.2.2 t + bsF (o.2.2 t) = _; have := bs_00 (m := x) (by omega); omega]; exact hl
    exact kk x i _ _ ls  w (lv_sub hl [1, 2, 3] rfl)
  | succ f ih =>
    intro x i i0 i1 hf H locs ls w hl
    have hz9 := (pop_le x i0).2
    refine lv_iload hx hb wdX9_linesRead_20 (lv_at hl 0 rfl) ?_
    refine z_if_eq (tgt := 49) hx hb (by omega) wdX9_linesRead_22 (by decide) (fun c1 => ?_) (fun c1 => ?_)
    · replace hl : lv_has ls 5 [(4, .int (zI (x : Int))), (3, .int (zI (t : Int))), (1, .long (nL (lrF o.2.2 (t + 1)))), (0, .ref (B + a))] := by rw [show lrF o.2.2 (t + 1) = lrF o.2.2 t + i by show lrF o.2.2 t + bsF (o.2.2 t) = _; have := bs_00 (m := x) (by omega); omega]; exact hl
      exact kk x i _ _ ls  w (lv_sub hl [1, 2, 3] rfl)
    · refine lv_lload_n hx hb wdX9_linesRead_25 rfl (lv_at hl 2 rfl) ?_
      refine lv_lconst (v := 1) hx hb wdX9_linesRead_26 (by decide) ?_
      refine lv_iconst (v := zI 4) hx hb wdX9_linesRead_27 rfl ?_
      refine lv_iload hx hb wdX9_linesRead_28 (lv_at hl 0 rfl) ?_
      refine x_Ni F w (As := [.int (zI (x : Int))]) (rest := [.int (zI 4), .long (1 : Int64), .long (nL (lrF o.2.2 t + i))]) (s_X11_lowest (m9 := x) (by omega)) wgc_X11_lowest wtb_5 wtb_6 (by decide) whs_X11_lowest ⟨(by omega), (by omega)⟩ hl.1 rfl (Nat.le_of_ble_eq_true rfl) ⟨Nat.zero_le _, Nat.zero_le _⟩ wdX9_linesRead_30 (fun H locs w => ?_)
      have hw1 := lowI_rg x (by omega)
      refine r_val (v := zI ((low x : Nat) : Int)) (congrArg zI (lowI_nz (by omega))) ?_
      have hlx := (low_t x i0 (by omega)).2
      refine z_imul (z := ((4 * low x : Nat) : Int)) hx hb wdX9_linesRead_33 (by omega) ?_
      refine lv_lshl hx hb wdX9_linesRead_34 rfl ?_
      refine r_vall (v := (nL (16 ^ low x))) (shl_st (low x) hlx) ?_
      refine lv_ladd hx hb wdX9_linesRead_35 ?_
      refine r_vall (v := (nL (lrF o.2.2 t + (i + 16 ^ low x)))) ((nL_add _ _).trans (congrArg nL (Nat.add_assoc _ _ _))) ?_
      refine lv_lstore_n (lv' := [(1, .long (nL (lrF o.2.2 t + (i + 16 ^ low x)))), (4, .int (zI (x : Int))), (3, .int (zI (t : Int))), (0, .ref (B + a))]) hx hb wdX9_linesRead_36 rfl hl (by decide) rfl (fun ls hl => ?_)
      refine lv_iload hx hb wdX9_linesRead_37 (lv_at hl 1 rfl) ?_
      refine lv_iload hx hb wdX9_linesRead_39 (lv_at hl 1 rfl) ?_
      refine lv_iconst (v := zI 1) hx hb wdX9_linesRead_41 rfl ?_
      refine z_isub (z := ((x : Int) - 1)) hx hb wdX9_linesRead_42 (by omega) ?_
      refine r_val (v := (zI (((x - 1) : Nat) : Int))) (congrArg zI (by omega)) ?_
      refine lv_iand hx hb wdX9_linesRead_43 ?_
      refine r_val (v := (zI (((x &&& (x - 1)) : Nat) : Int))) (zb_and x (x - 1)) ?_
      have q3 := (Nat.and_le_left : x &&& (x - 1) ≤ _)
      refine lv_istore (lv' := [(4, .int (zI (((x &&& (x - 1)) : Nat) : Int))), (1, .long (nL (lrF o.2.2 t + (i + 16 ^ low x)))), (3, .int (zI (t : Int))), (0, .ref (B + a))]) hx hb wdX9_linesRead_44 hl (by decide) rfl (fun ls hl => ?_)
      refine lv_goto (tgt := 20) hx hb wdX9_linesRead_46 (by decide) ?_
      have hpd := pop_dec x i0 (by omega)
      have hbd := bs_dec x i0 (by omega)
      have hla : x &&& (x - 1) ≤ x := Nat.and_le_left
      exact ih (x &&& (x - 1)) (i + 16 ^ low x) (by omega) (by omega) (by omega) _ _ ls w (lv_sub hl [0, 2, 1, 3] rfl)
theorem wdX9_linesRead_4 : decode cX9_linesRead 4 = .ok (.iload_n 3, 1) := dX9_linesRead_4
theorem wdX9_linesRead_5 : decode cX9_linesRead 5 = .ok (.aload_n 0, 1) := dX9_linesRead_5
theorem wdX9_linesRead_6 : decode cX9_linesRead 6 = .ok (.getfield 9, 3) := dX9_linesRead_6
theorem wdX9_linesRead_9 : decode cX9_linesRead 9 = .ok (.if_icmp .ge 46, 3) := dX9_linesRead_9
theorem wdX9_linesRead_12 : decode cX9_linesRead 12 = .ok (.aload_n 0, 1) := dX9_linesRead_12
theorem wdX9_linesRead_13 : decode cX9_linesRead 13 = .ok (.getfield 28, 3) := dX9_linesRead_13
theorem wdX9_linesRead_16 : decode cX9_linesRead 16 = .ok (.iload_n 3, 1) := dX9_linesRead_16
theorem wdX9_linesRead_17 : decode cX9_linesRead 17 = .ok (.iaload, 1) := dX9_linesRead_17
theorem wdX9_linesRead_18 : decode cX9_linesRead 18 = .ok (.istore 4, 2) := dX9_linesRead_18
theorem wdX9_linesRead_49 : decode cX9_linesRead 49 = .ok (.iinc 3 1, 3) := dX9_linesRead_49
theorem wdX9_linesRead_52 : decode cX9_linesRead 52 = .ok (.goto (-48), 3) := dX9_linesRead_52
set_option maxRecDepth 4000 in
theorem lp_X9_linesRead {p : Program} {l : Launch} {e : Env} {s : State} {m : MethodId} {args : Array Value} {below : List Frame} {meth : Method} {c : Code} {D : va_G} {B : Nat} {cy : Nat → ClassId} {H0 : Heap} {Q : State → Prop} {M : Mem} {R : Room} {a q hv ed : Nat} {o : Wo} (F : CallFix p m c cX9_linesRead 5 s args TB RX9) (hR1 : 2 ≤ R.frames) (hR2 : 40 ≤ R.locals) (hk : kd a = (9, 0, 0)) (hC : CW M a q hv ed o) (kk : ∀ (t : Nat) (H : Heap) (locs : List Loc) (ls : Array Slot), (t = o.1) → Wd D B cy s H0 M H locs → lv_has ls 5 [(1, .long (nL (lrF o.2.2 t)))] → W p l e R s m args below meth c H locs 0 0 Q (F0 m 55 ls [])) : ∀ (f : Nat) (t : Nat), (t ≤ o.1) → (o.1 ≤ t + f) → ∀ (H : Heap) (locs : List Loc) (ls : Array Slot), Wd D B cy s H0 M H locs → lv_has ls 5 [(3, .int (zI (t : Int))), (1, .long (nL (lrF o.2.2 t))), (0, .ref (B + a))] → W p l e R s m args below meth c H locs 0 0 Q (F0 m 4 ls []) := by
  have hx := F.1
  have hb := F.2.1
  have hW := hC.1
  have hwf := hC.wf
  have hKL := hwf.2.2.2.2
  have hn12 := hwf.1
  have hq12 := hwf.2.1
  have hhv := hwf.2.2.1
  have hed := hwf.2.2.2.1
  intro f
  induction f with
  | zero =>
    intro t i0 hf H locs ls w hl
    refine lv_iload_n hx hb wdX9_linesRead_4 rfl (lv_at hl 0 rfl) ?_
    refine lv_aload_n hx hb wdX9_linesRead_5 rfl (lv_at hl 2 rfl) ?_
    refine f_9_0 F w (a := a) hk wtb_226 wdX9_linesRead_6 ?_
    refine r_val (v := (zI ((o.1 : Nat) : Int))) (hW.1) ?_
    refine z_icmp_ge (tgt := 55) hx hb (by omega) (by omega) wdX9_linesRead_9 (by decide) (fun c1 => ?_) (fun c1 => False.elim (by omega))
    exact kk t _ _ ls (by omega) w (lv_sub hl [1] rfl)
  | succ f ih =>
    intro t i0 hf H locs ls w hl
    refine lv_iload_n hx hb wdX9_linesRead_4 rfl (lv_at hl 0 rfl) ?_
    refine lv_aload_n hx hb wdX9_linesRead_5 rfl (lv_at hl 2 rfl) ?_
    refine f_9_0 F w (a := a) hk wtb_226 wdX9_linesRead_6 ?_
    refine r_val (v := (zI ((o.1 : Nat) : Int))) (hW.1) ?_
    refine z_icmp_ge (tgt := 55) hx hb (by omega) (by omega) wdX9_linesRead_9 (by decide) (fun c1 => ?_) (fun c1 => ?_)
    · exact kk t _ _ ls (by omega) w (lv_sub hl [1] rfl)
    · refine lv_aload_n hx hb wdX9_linesRead_12 rfl (lv_at hl 2 rfl) ?_
      refine f_9_5 F w (a := a) hk wtb_227 wdX9_linesRead_13 ?_
      refine lv_iload_n hx hb wdX9_linesRead_16 rfl (lv_at hl 0 rfl) ?_
      refine g_iald F w (a := (a + 2)) (kd_w2 hk) (j := t) (ix_n (by omega)) (by omega) wdX9_linesRead_17 ?_
      have hL1 := (hKL t (by omega)).2
      refine r_val (v := (zI (((o.2.2 t) : Nat) : Int))) (hW.2.2.2.2.2 t (by omega)) ?_
      refine lv_istore (lv' := [(4, .int (zI (((o.2.2 t) : Nat) : Int))), (3, .int (zI (t : Int))), (1, .long (nL (lrF o.2.2 t))), (0, .ref (B + a))]) hx hb wdX9_linesRead_18 hl (by decide) rfl (fun ls hl => ?_)
      replace hl : lv_has ls 5 [(4, .int (zI (((o.2.2 t) : Nat) : Int))), (3, .int (zI (t : Int))), (1, .long (nL (lrF o.2.2 t + 0))), (0, .ref (B + a))] := hl
      refine lp_X9_linesRead2  F (by omega) (by omega) hk hC (by omega) (fun x i H locs ls  w hl => ?_) (pop (o.2.2 t)) (o.2.2 t) 0 (by omega) (by omega) (by omega) _ _ ls w (lv_sub hl [0, 1, 2, 3] rfl)
      refine z_iinc (v := (((t + 1) : Nat) : Int)) (lv' := [(3, .int (zI (((t + 1) : Nat) : Int))), (1, .long (nL (lrF o.2.2 (t + 1)))), (0, .ref (B + a))]) hx hb wdX9_linesRead_49 hl (k := 0) rfl (by omega) (by decide) rfl (fun ls hl => ?_)
      refine lv_goto (tgt := 4) hx hb wdX9_linesRead_52 (by decide) ?_
      exact ih (t + 1) (by omega) (by omega) _ _ ls w (lv_sub hl [0, 1, 2] rfl)
theorem wdX9_linesRead_0 : decode cX9_linesRead 0 = .ok (.lconst 0, 1) := dX9_linesRead_0
theorem wdX9_linesRead_1 : decode cX9_linesRead 1 = .ok (.lstore_n 1, 1) := dX9_linesRead_1
theorem wdX9_linesRead_2 : decode cX9_linesRead 2 = .ok (.iconst 0, 1) := dX9_linesRead_2
theorem wdX9_linesRead_3 : decode cX9_linesRead 3 = .ok (.istore_n 3, 1) := dX9_linesRead_3
theorem wdX9_linesRead_55 : decode cX9_linesRead 55 = .ok (.lload_n 1, 1) := dX9_linesRead_55
theorem wdX9_linesRead_56 : decode cX9_linesRead 56 = .ok (.lreturn, 1) := dX9_linesRead_56
set_option maxRecDepth 4000 in
theorem h_linesRead {l : Launch} {D : va_G} {B : Nat} {cy : Nat → ClassId} {M : Mem} {a q hv ed : Nat} {o : Wo} (hk : kd a = (9, 0, 0)) (hC : CW M a q hv ed o) : Cl l D B cy yX9_linesRead cX9_linesRead 5 2 40 [.ref (B + a)] M (fun r M1 => r = (nL (lrF o.2.2 o.1)) ∧ M1 = M) := by
  refine s_any (by decide) (Nat.le_of_ble_eq_true rfl) ?_
  intro p e s m below meth c ls F hr hlocks w hl
  have F : CallFix p m c cX9_linesRead 5 s _ TB RX9 := F
  have hx := F.1
  have hb := F.2.1
  have hl : lv_has ls 5 [(0, .ref (B + a))] := hl
  have hW := hC.1
  have hwf := hC.wf
  have hKL := hwf.2.2.2.2
  have hn12 := hwf.1
  have hq12 := hwf.2.1
  have hhv := hwf.2.2.1
  have hed := hwf.2.2.2.1
  refine lv_lconst (v := 0) hx hb wdX9_linesRead_0 (by decide) ?_
  refine lv_lstore_n (lv' := [(1, .long (0 : Int64)), (0, .ref (B + a))]) hx hb wdX9_linesRead_1 rfl hl (by decide) rfl (fun ls hl => ?_)
  refine lv_iconst (v := zI 0) hx hb wdX9_linesRead_2 rfl ?_
  refine lv_istore_n (lv' := [(3, .int (zI 0)), (1, .long (0 : Int64)), (0, .ref (B + a))]) hx hb wdX9_linesRead_3 rfl hl (by decide) rfl (fun ls hl => ?_)
  replace hl : lv_has ls 5 [(3, .int (zI 0)), (1, .long (nL (lrF o.2.2 0))), (0, .ref (B + a))] := hl
  refine lp_X9_linesRead  F (Nat.le_of_ble_eq_true rfl) (Nat.le_of_ble_eq_true rfl) hk hC (fun t H locs ls x0 w hl => ?_) o.1 0 (by omega) (by omega) _ _ ls w (lv_sub hl [0, 1, 2] rfl)
  rw [x0] at hl
  refine lv_lload_n hx hb wdX9_linesRead_55 rfl (lv_at hl 0 rfl) ?_
  exact e_l F w hr hlocks ⟨rfl, rfl⟩ wdX9_linesRead_56
theorem wdX9_isReadAs_0 : decode cX9_isReadAs 0 = .ok (.aload_n 0, 1) := dX9_isReadAs_0
theorem wdX9_isReadAs_1 : decode cX9_isReadAs 1 = .ok (.invokevirtual 80, 3) := dX9_isReadAs_1
theorem wtk_X9_kindsRead : Cond.code yX9_kindsRead cX9_kindsRead 5 (some .long) ∈ TB := tk_X9_kindsRead
theorem wgc_X9_kindsRead : GoodIn TB (cw yX9_kindsRead cX9_kindsRead 5 (some .long)) := goodIn_c2 wtk_X9_kindsRead
theorem wtb_379 : Cond.methodLink "ToneLines$Word" 80 yX9_kindsRead ∈ TB := tb_105
theorem wtb_380 : Cond.instanceMethod yX9_kindsRead ∈ TB := tb_106
theorem wtb_381 : Cond.selects "ToneLines$Word" yX9_kindsRead yX9_kindsRead ∈ TB := tb_107
theorem wgv_X9_80 : GoodIn TB (wsV RX9 80 RX9 yX9_kindsRead (cw yX9_kindsRead cX9_kindsRead 5 (some .long))) := goodIn_4 wtb_379 wtb_380 wtb_381 wtb_3 wgc_X9_kindsRead
theorem whv_X9_kindsRead : yX9_kindsRead.cls = RX9 ∧ yX9_kindsRead.cls ≠ "java/lang/invoke/MethodHandle" ∧ yX9_kindsRead.cls ≠ "java/lang/invoke/VarHandle" ∧ (parseMethodDescriptor yX9_kindsRead.desc).map (fun d => d.parameters.length) = some 0 := hv_X9_kindsRead
theorem wdX9_isReadAs_4 : decode cX9_isReadAs 4 = .ok (.aload_n 1, 1) := dX9_isReadAs_4
theorem wdX9_isReadAs_5 : decode cX9_isReadAs 5 = .ok (.invokevirtual 80, 3) := dX9_isReadAs_5
theorem wdX9_isReadAs_8 : decode cX9_isReadAs 8 = .ok (.lcmp, 1) := dX9_isReadAs_8
theorem wdX9_isReadAs_9 : decode cX9_isReadAs 9 = .ok (.ifCond .ne 19, 3) := dX9_isReadAs_9
theorem wdX9_isReadAs_28 : decode cX9_isReadAs 28 = .ok (.iconst 0, 1) := dX9_isReadAs_28
theorem wdX9_isReadAs_29 : decode cX9_isReadAs 29 = .ok (.ireturn, 1) := dX9_isReadAs_29
theorem wdX9_isReadAs_12 : decode cX9_isReadAs 12 = .ok (.aload_n 0, 1) := dX9_isReadAs_12
theorem wdX9_isReadAs_13 : decode cX9_isReadAs 13 = .ok (.invokevirtual 84, 3) := dX9_isReadAs_13
theorem wtk_X9_linesRead : Cond.code yX9_linesRead cX9_linesRead 5 (some .long) ∈ TB := tk_X9_linesRead
theorem wgc_X9_linesRead : GoodIn TB (cw yX9_linesRead cX9_linesRead 5 (some .long)) := goodIn_c2 wtk_X9_linesRead
theorem wtb_382 : Cond.methodLink "ToneLines$Word" 84 yX9_linesRead ∈ TB := tb_108
theorem wtb_383 : Cond.instanceMethod yX9_linesRead ∈ TB := tb_109
theorem wtb_384 : Cond.selects "ToneLines$Word" yX9_linesRead yX9_linesRead ∈ TB := tb_110
theorem wgv_X9_84 : GoodIn TB (wsV RX9 84 RX9 yX9_linesRead (cw yX9_linesRead cX9_linesRead 5 (some .long))) := goodIn_4 wtb_382 wtb_383 wtb_384 wtb_3 wgc_X9_linesRead
theorem whv_X9_linesRead : yX9_linesRead.cls = RX9 ∧ yX9_linesRead.cls ≠ "java/lang/invoke/MethodHandle" ∧ yX9_linesRead.cls ≠ "java/lang/invoke/VarHandle" ∧ (parseMethodDescriptor yX9_linesRead.desc).map (fun d => d.parameters.length) = some 0 := hv_X9_linesRead
theorem wdX9_isReadAs_16 : decode cX9_isReadAs 16 = .ok (.aload_n 1, 1) := dX9_isReadAs_16
theorem wdX9_isReadAs_17 : decode cX9_isReadAs 17 = .ok (.invokevirtual 84, 3) := dX9_isReadAs_17
theorem wdX9_isReadAs_20 : decode cX9_isReadAs 20 = .ok (.lcmp, 1) := dX9_isReadAs_20
theorem wdX9_isReadAs_21 : decode cX9_isReadAs 21 = .ok (.ifCond .ne 7, 3) := dX9_isReadAs_21
theorem wdX9_isReadAs_24 : decode cX9_isReadAs 24 = .ok (.iconst 1, 1) := dX9_isReadAs_24
theorem wdX9_isReadAs_25 : decode cX9_isReadAs 25 = .ok (.goto 4, 3) := dX9_isReadAs_25
set_option maxRecDepth 4000 in
theorem h_isReadAs {l : Launch} {D : va_G} {B : Nat} {cy : Nat → ClassId} {M : Mem} {a b q hv ed : Nat} {o o2 : Wo} (hk : kd a = (9, 0, 0)) (hC : CW M a q hv ed o) (hk2 : kd b = (9, 0, 0)) (hC2 : CW M b q hv ed o2) (hn1 : ncW o) (hn2 : ncW o2) : Ci l D B cy yX9_isReadAs cX9_isReadAs 2 (some .boolean) 3 64 [.ref (B + a), .ref (B + b)] M (fun r M1 => ((rdE q o o2) ∧ r = zI 1 ∨ ¬ (rdE q o o2) ∧ r = zI 0) ∧ M1 = M) := by
  refine s_any (by decide) (Nat.le_of_ble_eq_true rfl) ?_
  intro p e s m below meth c ls F hr hlocks w hl
  have F : CallFix p m c cX9_isReadAs 2 s _ TB RX9 := F
  have hx := F.1
  have hb := F.2.1
  have hl : lv_has ls 2 [(0, .ref (B + a)), (1, .ref (B + b))] := hl
  refine lv_aload_n hx hb wdX9_isReadAs_0 rfl (lv_at hl 0 rfl) ?_
  refine x_Vl F w (As := []) (rest := []) (a := a) (kd_lt (a := a) hk (by decide)) (sh_9 hk _ _) rfl (h_kindsRead hk hC) wgv_X9_80 whv_X9_kindsRead ⟨(Nat.le_of_ble_eq_true rfl), (Nat.le_of_ble_eq_true rfl)⟩ hl.1 rfl (Nat.le_of_ble_eq_true rfl) ⟨Nat.zero_le _, Nat.zero_le _⟩ wdX9_isReadAs_1 (fun H locs w => ?_)
  refine lv_aload_n hx hb wdX9_isReadAs_4 rfl (lv_at hl 1 rfl) ?_
  refine x_Vl F w (As := []) (rest := [.long (nL (kvr (sqR o.2.1 o.2.2 o.1)))]) (a := b) (kd_lt (a := b) hk2 (by decide)) (sh_9 hk2 _ _) rfl (h_kindsRead hk2 hC2) wgv_X9_80 whv_X9_kindsRead ⟨(Nat.le_of_ble_eq_true rfl), (Nat.le_of_ble_eq_true rfl)⟩ hl.1 rfl (Nat.le_of_ble_eq_true rfl) ⟨Nat.zero_le _, Nat.zero_le _⟩ wdX9_isReadAs_5 (fun H locs w => ?_)
  refine W.lcmp hx hb wdX9_isReadAs_8 ?_
  obtain ⟨lc3, blc3, elc3⟩ := rg_ex (lg_cmp (nL (kvr (sqR o.2.1 o.2.2 o.1))) (nL (kvr (sqR o2.2.1 o2.2.2 o2.1))))
  refine r_val elc3 ?_
  refine z_if_ne (tgt := 28) hx hb (by omega) wdX9_isReadAs_9 (by decide) (fun c4 => ?_) (fun c4 => ?_)
  · refine lv_iconst (v := zI 0) hx hb wdX9_isReadAs_28 rfl ?_
    exact e_z F w hr hlocks (nar_z (by omega)) ⟨Or.inr ⟨rdE_n1 hC.2.1 hC2.2.1 hn1 hn2 (lcmp_n (fun h9 => by have h8 := (zI_eq (by constructor <;> omega) (by constructor <;> omega)).mp (h9.symm.trans elc3); omega)), rfl⟩, rfl⟩ wdX9_isReadAs_29
  · refine lv_aload_n hx hb wdX9_isReadAs_12 rfl (lv_at hl 0 rfl) ?_
    refine x_Vl F w (As := []) (rest := []) (a := a) (kd_lt (a := a) hk (by decide)) (sh_9 hk _ _) rfl (h_linesRead hk hC) wgv_X9_84 whv_X9_linesRead ⟨(Nat.le_of_ble_eq_true rfl), (Nat.le_of_ble_eq_true rfl)⟩ hl.1 rfl (Nat.le_of_ble_eq_true rfl) ⟨Nat.zero_le _, Nat.zero_le _⟩ wdX9_isReadAs_13 (fun H locs w => ?_)
    refine lv_aload_n hx hb wdX9_isReadAs_16 rfl (lv_at hl 1 rfl) ?_
    refine x_Vl F w (As := []) (rest := [.long (nL (lrF o.2.2 o.1))]) (a := b) (kd_lt (a := b) hk2 (by decide)) (sh_9 hk2 _ _) rfl (h_linesRead hk2 hC2) wgv_X9_84 whv_X9_linesRead ⟨(Nat.le_of_ble_eq_true rfl), (Nat.le_of_ble_eq_true rfl)⟩ hl.1 rfl (Nat.le_of_ble_eq_true rfl) ⟨Nat.zero_le _, Nat.zero_le _⟩ wdX9_isReadAs_17 (fun H locs w => ?_)
    refine W.lcmp hx hb wdX9_isReadAs_20 ?_
    obtain ⟨lc7, blc7, elc7⟩ := rg_ex (lg_cmp (nL (lrF o.2.2 o.1)) (nL (lrF o2.2.2 o2.1)))
    refine r_val elc7 ?_
    refine z_if_ne (tgt := 28) hx hb (by omega) wdX9_isReadAs_21 (by decide) (fun c8 => ?_) (fun c8 => ?_)
    · refine lv_iconst (v := zI 0) hx hb wdX9_isReadAs_28 rfl ?_
      exact e_z F w hr hlocks (nar_z (by omega)) ⟨Or.inr ⟨rdE_n2 hC.2.1 hC2.2.1 hn1 hn2 (lcmp_n (fun h9 => by have h8 := (zI_eq (by constructor <;> omega) (by constructor <;> omega)).mp (h9.symm.trans elc7); omega)), rfl⟩, rfl⟩ wdX9_isReadAs_29
    · refine lv_iconst (v := zI 1) hx hb wdX9_isReadAs_24 rfl ?_
      refine lv_goto (tgt := 29) hx hb wdX9_isReadAs_25 (by decide) ?_
      exact e_z F w hr hlocks (nar_z (by omega)) ⟨Or.inl ⟨rdE_y hC.2.1 hC2.2.1 hn1 hn2 (lcmp_0 (elc3.trans (congrArg zI (by omega)))) (lcmp_0 (elc7.trans (congrArg zI (by omega)))), rfl⟩, rfl⟩ wdX9_isReadAs_29
