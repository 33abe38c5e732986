theorem wdX12_isFall_20 : decode cX12_isFall 20 = .ok (.iload_n 3, 1) := dX12_isFall_20
theorem wdX12_isFall_21 : decode cX12_isFall 21 = .ok (.ifCond .lt 44, 3) := dX12_isFall_21
theorem wdX12_isFall_24 : decode cX12_isFall 24 = .ok (.aload_n 0, 1) := dX12_isFall_24
theorem wdX12_isFall_25 : decode cX12_isFall 25 = .ok (.getfield 17, 3) := dX12_isFall_25
theorem wdX12_isFall_28 : decode cX12_isFall 28 = .ok (.iconst 1, 1) := dX12_isFall_28
theorem wdX12_isFall_29 : decode cX12_isFall 29 = .ok (.iload_n 3, 1) := dX12_isFall_29
theorem wdX12_isFall_30 : decode cX12_isFall 30 = .ok (.iadd, 1) := dX12_isFall_30
theorem wdX12_isFall_31 : decode cX12_isFall 31 = .ok (.iaload, 1) := dX12_isFall_31
theorem wdX12_isFall_32 : decode cX12_isFall 32 = .ok (.iconst 2, 1) := dX12_isFall_32
theorem wdX12_isFall_33 : decode cX12_isFall 33 = .ok (.if_icmp .ne 5, 3) := dX12_isFall_33
theorem wdX12_isFall_38 : decode cX12_isFall 38 = .ok (.iload_n 2, 1) := dX12_isFall_38
theorem wdX12_isFall_39 : decode cX12_isFall 39 = .ok (.ifCond .ne 14, 3) := dX12_isFall_39
theorem wdX12_isFall_53 : decode cX12_isFall 53 = .ok (.iconst 1, 1) := dX12_isFall_53
theorem wdX12_isFall_54 : decode cX12_isFall 54 = .ok (.goto 4, 3) := dX12_isFall_54
theorem wdX12_isFall_58 : decode cX12_isFall 58 = .ok (.istore_n 2, 1) := dX12_isFall_58
theorem wdX12_isFall_59 : decode cX12_isFall 59 = .ok (.iinc 3 (-1), 3) := dX12_isFall_59
theorem wdX12_isFall_62 : decode cX12_isFall 62 = .ok (.goto (-42), 3) := dX12_isFall_62
theorem wdX12_isFall_42 : decode cX12_isFall 42 = .ok (.aload_n 0, 1) := dX12_isFall_42
theorem wdX12_isFall_43 : decode cX12_isFall 43 = .ok (.getfield 17, 3) := dX12_isFall_43
theorem wdX12_isFall_46 : decode cX12_isFall 46 = .ok (.iconst 1, 1) := dX12_isFall_46
theorem wdX12_isFall_47 : decode cX12_isFall 47 = .ok (.iload_n 3, 1) := dX12_isFall_47
theorem wdX12_isFall_48 : decode cX12_isFall 48 = .ok (.iadd, 1) := dX12_isFall_48
theorem wdX12_isFall_49 : decode cX12_isFall 49 = .ok (.iaload, 1) := dX12_isFall_49
theorem wdX12_isFall_50 : decode cX12_isFall 50 = .ok (.ifCond .ne 7, 3) := dX12_isFall_50
theorem wdX12_isFall_57 : decode cX12_isFall 57 = .ok (.iconst 0, 1) := dX12_isFall_57
theorem wdX12_isFall_36 : decode cX12_isFall 36 = .ok (.iload_n 2, 1) := dX12_isFall_36
theorem wdX12_isFall_37 : decode cX12_isFall 37 = .ok (.ireturn, 1) := dX12_isFall_37
set_option maxRecDepth 4000 in
theorem lp_X12_isFall {p : Program} {l : Launch} {e : Env} {s : State} {m : MethodId} {args : Array Value} {below : List Frame} {meth : Method} {c : Code} {D : va_G} {B : Nat} {cy : Nat → ClassId}  {M : Mem} {R : Room} {q hv ed t : Nat} {o : Wo} {z9 : Int} (F : CallFix p m c cX12_isFall 4 s args TB RX12) (hr : meth.sig.returnType = (some .boolean)) (hlocks : meth.locks = false) (hR1 : 0 ≤ R.frames) (hR2 : 0 ≤ R.locals) (hR : RW M q hv ed o z9) (ht : t < o.1) (hK2 : o.2.1 t = 2) (kk : ∀ (k : Nat) (lw : Nat) (H : Heap) (locs : List Loc) (ls : Array Slot), (¬ isF o.2.1 t) → Wd D B cy s s.heap M H locs → lv_has ls 4 [(0, .ref (B + 146))] → W p l e R s m args below meth c H locs 0 0 (MQ below (va_Qi (fun r M1 => ((isF o.2.1 t) ∧ r = zI 1 ∨ ¬ (isF o.2.1 t) ∧ r = zI 0) ∧ M1 = M) (fun M2 t2 => Wp D B cy M2 t2) (fun q2 => B ≤ q2)) args s 0 0 (fun q2 => B ≤ q2)) (F0 m 65 ls [])) : ∀ (f : Nat) (k : Nat) (lw : Nat), (k ≤ t) → (bkI o.2.1 t k lw) → (lw ≤ 1) → (k ≤ f) → ∀ (H : Heap) (locs : List Loc) (ls : Array Slot), Wd D B cy s s.heap M H locs → lv_has ls 4 [(3, .int (zI ((k : Int) - 1))), (2, .int (zI (lw : Int))), (0, .ref (B + 146)), (1, .int (zI (t : Int)))] → W p l e R s m args below meth c H locs 0 0 (MQ below (va_Qi (fun r M1 => ((isF o.2.1 t) ∧ r = zI 1 ∨ ¬ (isF o.2.1 t) ∧ r = zI 0) ∧ M1 = M) (fun M2 t2 => Wp D B cy M2 t2) (fun q2 => B ≤ q2)) args s 0 0 (fun q2 => B ≤ q2)) (F0 m 20 ls []) := by
  have hx := F.1
  have hb := F.2.1
  have hW := hR.1
  have hwf := hR.wf
  have hKL := hwf.2.2.2.2
  have hn12 := hwf.1
  have hq12 := hwf.2.1
  have hhv := hwf.2.2.1
  have hed := hwf.2.2.2.1
  have hc := hR.2.2.2.2
  intro f
  induction f with
  | zero =>
    intro k lw i0 i1 i2 hf H locs ls w hl
    refine lv_iload_n hx hb wdX12_isFall_20 rfl (lv_at hl 0 rfl) ?_
    refine z_if_lt (tgt := 65) hx hb (by omega) wdX12_isFall_21 (by decide) (fun c1 => ?_) (fun c1 => False.elim (by omega))
    exact kk k lw _ _ ls (bkI_e (by rw [show 0 = k by omega]; exact i1)) w (lv_sub hl [2] rfl)
  | succ f ih =>
    intro k lw i0 i1 i2 hf H locs ls w hl
    refine lv_iload_n hx hb wdX12_isFall_20 rfl (lv_at hl 0 rfl) ?_
    refine z_if_lt (tgt := 65) hx hb (by omega) wdX12_isFall_21 (by decide) (fun c1 => ?_) (fun c1 => ?_)
    · exact kk k lw _ _ ls (bkI_e (by rw [show 0 = k by omega]; exact i1)) w (lv_sub hl [2] rfl)
    · obtain ⟨j, rfl⟩ : ∃ j, k = j + 1 := ⟨k - 1, by omega⟩
      replace hl : lv_has ls 4 [(3, .int (zI (j : Int))), (2, .int (zI (lw : Int))), (0, .ref (B + 146)), (1, .int (zI (t : Int)))] := by rw [show ((j + 1 : Nat) : Int) - 1 = (j : Int) by omega] at hl; exact hl
      refine lv_aload_n hx hb wdX12_isFall_24 rfl (lv_at hl 2 rfl) ?_
      refine f_12_2 F w (a := 146) rfl wtb_102 wdX12_isFall_25 ?_
      refine lv_iconst (v := zI 1) hx hb wdX12_isFall_28 rfl ?_
      refine lv_iload_n hx hb wdX12_isFall_29 rfl (lv_at hl 0 rfl) ?_
      refine z_iadd (z := (((1 + j) : Nat) : Int)) hx hb wdX12_isFall_30 (by omega) ?_
      refine g_iald F w (a := 148) rfl (j := (1 + j)) (ix_n (by omega)) (by omega) wdX12_isFall_31 ?_
      have hK1 := (hKL j (by omega)).1
      refine r_val (v := (zI (((o.2.1 j) : Nat) : Int))) (hW.2.2.2.2.1 j (by omega)) ?_
      refine lv_iconst (v := zI 2) hx hb wdX12_isFall_32 rfl ?_
      refine z_icmp_ne (tgt := 38) hx hb (by omega) (by omega) wdX12_isFall_33 (by decide) (fun c2 => ?_) (fun c2 => ?_)
      · refine lv_iload_n hx hb wdX12_isFall_38 rfl (lv_at hl 1 rfl) ?_
        refine z_if_ne (tgt := 53) hx hb (by omega) wdX12_isFall_39 (by decide) (fun c3 => ?_) (fun c3 => ?_)
        · refine lv_iconst (v := zI 1) hx hb wdX12_isFall_53 rfl ?_
          refine lv_goto (tgt := 58) hx hb wdX12_isFall_54 (by decide) ?_
          refine lv_istore_n (lv' := [(2, .int (zI 1)), (3, .int (zI (j : Int))), (0, .ref (B + 146)), (1, .int (zI (t : Int)))]) hx hb wdX12_isFall_58 rfl hl (by decide) rfl (fun ls hl => ?_)
          refine z_iinc (v := ((j : Int) - 1)) (lv' := [(3, .int (zI ((j : Int) - 1))), (2, .int (zI 1)), (0, .ref (B + 146)), (1, .int (zI (t : Int)))]) hx hb wdX12_isFall_59 hl (k := 1) rfl (by omega) (by decide) rfl (fun ls hl => ?_)
          refine lv_goto (tgt := 20) hx hb wdX12_isFall_62 (by decide) ?_
          exact ih j 1 (by omega) (by first | exact bkI_l i1 (by omega) | exact bkI_s1 i1 (by omega) (by omega) (by omega)) (by omega) (by omega) _ _ ls w (lv_sub hl [0, 1, 2, 3] rfl)
        · refine lv_aload_n hx hb wdX12_isFall_42 rfl (lv_at hl 2 rfl) ?_
          refine f_12_2 F w (a := 146) rfl wtb_102 wdX12_isFall_43 ?_
          refine lv_iconst (v := zI 1) hx hb wdX12_isFall_46 rfl ?_
          refine lv_iload_n hx hb wdX12_isFall_47 rfl (lv_at hl 0 rfl) ?_
          refine z_iadd (z := (((1 + j) : Nat) : Int)) hx hb wdX12_isFall_48 (by omega) ?_
          refine g_iald F w (a := 148) rfl (j := (1 + j)) (ix_n (by omega)) (by omega) wdX12_isFall_49 ?_
          have hK3 := (hKL j (by omega)).1
          refine r_val (v := (zI (((o.2.1 j) : Nat) : Int))) (hW.2.2.2.2.1 j (by omega)) ?_
          refine z_if_ne (tgt := 57) hx hb (by omega) wdX12_isFall_50 (by decide) (fun c4 => ?_) (fun c4 => ?_)
          · refine lv_iconst (v := zI 0) hx hb wdX12_isFall_57 rfl ?_
            refine lv_istore_n (lv' := [(2, .int (zI 0)), (3, .int (zI (j : Int))), (0, .ref (B + 146)), (1, .int (zI (t : Int)))]) hx hb wdX12_isFall_58 rfl hl (by decide) rfl (fun ls hl => ?_)
            refine z_iinc (v := ((j : Int) - 1)) (lv' := [(3, .int (zI ((j : Int) - 1))), (2, .int (zI 0)), (0, .ref (B + 146)), (1, .int (zI (t : Int)))]) hx hb wdX12_isFall_59 hl (k := 1) rfl (by omega) (by decide) rfl (fun ls hl => ?_)
            refine lv_goto (tgt := 20) hx hb wdX12_isFall_62 (by decide) ?_
            exact ih j 0 (by omega) (bkI_s0 i1 (by omega) (by omega) (by omega)) (by omega) (by omega) _ _ ls w (lv_sub hl [0, 1, 2, 3] rfl)
          · refine lv_iconst (v := zI 1) hx hb wdX12_isFall_53 rfl ?_
            refine lv_goto (tgt := 58) hx hb wdX12_isFall_54 (by decide) ?_
            refine lv_istore_n (lv' := [(2, .int (zI 1)), (3, .int (zI (j : Int))), (0, .ref (B + 146)), (1, .int (zI (t : Int)))]) hx hb wdX12_isFall_58 rfl hl (by decide) rfl (fun ls hl => ?_)
            refine z_iinc (v := ((j : Int) - 1)) (lv' := [(3, .int (zI ((j : Int) - 1))), (2, .int (zI 1)), (0, .ref (B + 146)), (1, .int (zI (t : Int)))]) hx hb wdX12_isFall_59 hl (k := 1) rfl (by omega) (by decide) rfl (fun ls hl => ?_)
            refine lv_goto (tgt := 20) hx hb wdX12_isFall_62 (by decide) ?_
            exact ih j 1 (by omega) (by first | exact bkI_l i1 (by omega) | exact bkI_s1 i1 (by omega) (by omega) (by omega)) (by omega) (by omega) _ _ ls w (lv_sub hl [0, 1, 2, 3] rfl)
      · refine lv_iload_n hx hb wdX12_isFall_36 rfl (lv_at hl 1 rfl) ?_
        exact e_z F w hr hlocks (nar_z (by omega)) ⟨bk_out (bkI_h i1 (by omega) (by omega)) (by omega), rfl⟩ wdX12_isFall_37
theorem wdX12_isFall_0 : decode cX12_isFall 0 = .ok (.aload_n 0, 1) := dX12_isFall_0
theorem wdX12_isFall_1 : decode cX12_isFall 1 = .ok (.getfield 17, 3) := dX12_isFall_1
theorem wdX12_isFall_4 : decode cX12_isFall 4 = .ok (.iconst 1, 1) := dX12_isFall_4
theorem wdX12_isFall_5 : decode cX12_isFall 5 = .ok (.iload_n 1, 1) := dX12_isFall_5
theorem wdX12_isFall_6 : decode cX12_isFall 6 = .ok (.iadd, 1) := dX12_isFall_6
theorem wdX12_isFall_7 : decode cX12_isFall 7 = .ok (.iaload, 1) := dX12_isFall_7
theorem wdX12_isFall_8 : decode cX12_isFall 8 = .ok (.iconst 2, 1) := dX12_isFall_8
theorem wdX12_isFall_9 : decode cX12_isFall 9 = .ok (.if_icmp .eq 5, 3) := dX12_isFall_9
theorem wdX12_isFall_14 : decode cX12_isFall 14 = .ok (.iconst 0, 1) := dX12_isFall_14
theorem wdX12_isFall_15 : decode cX12_isFall 15 = .ok (.istore_n 2, 1) := dX12_isFall_15
theorem wdX12_isFall_16 : decode cX12_isFall 16 = .ok (.iload_n 1, 1) := dX12_isFall_16
theorem wdX12_isFall_17 : decode cX12_isFall 17 = .ok (.iconst 1, 1) := dX12_isFall_17
theorem wdX12_isFall_18 : decode cX12_isFall 18 = .ok (.isub, 1) := dX12_isFall_18
theorem wdX12_isFall_19 : decode cX12_isFall 19 = .ok (.istore_n 3, 1) := dX12_isFall_19
theorem wdX12_isFall_65 : decode cX12_isFall 65 = .ok (.iconst 0, 1) := dX12_isFall_65
theorem wdX12_isFall_66 : decode cX12_isFall 66 = .ok (.ireturn, 1) := dX12_isFall_66
theorem wdX12_isFall_12 : decode cX12_isFall 12 = .ok (.iconst 0, 1) := dX12_isFall_12
theorem wdX12_isFall_13 : decode cX12_isFall 13 = .ok (.ireturn, 1) := dX12_isFall_13
set_option maxRecDepth 4000 in
theorem k_isFall {l : Launch} {D : va_G} {B : Nat} {cy : Nat → ClassId} {M : Mem} {q hv ed : Nat} {o : Wo} {z9 : Int} (hR : RW M q hv ed o z9) {t : Nat} (ht : t < o.1) : Ci l D B cy yX12_isFall cX12_isFall 4 (some .boolean) 0 0 [.ref (B + 146), .int (zI (t : Int))] M (fun r M1 => ((isF o.2.1 t) ∧ r = zI 1 ∨ ¬ (isF o.2.1 t) ∧ r = zI 0) ∧ M1 = M) := by
  refine s_any (by decide) (Nat.le_of_ble_eq_true rfl) ?_
  intro p e s m below meth c ls F hr hlocks w hl
  have F : CallFix p m c cX12_isFall 4 s _ TB RX12 := F
  have hx := F.1
  have hb := F.2.1
  have hl : lv_has ls 4 [(0, .ref (B + 146)), (1, .int (zI (t : Int)))] := hl
  have hW := hR.1
  have hwf := hR.wf
  have hKL := hwf.2.2.2.2
  have hn12 := hwf.1
  have hq12 := hwf.2.1
  have hhv := hwf.2.2.1
  have hed := hwf.2.2.2.1
  have hc := hR.2.2.2.2
  refine lv_aload_n hx hb wdX12_isFall_0 rfl (lv_at hl 0 rfl) ?_
  refine f_12_2 F w (a := 146) rfl wtb_102 wdX12_isFall_1 ?_
  refine lv_iconst (v := zI 1) hx hb wdX12_isFall_4 rfl ?_
  refine lv_iload_n hx hb wdX12_isFall_5 rfl (lv_at hl 1 rfl) ?_
  refine z_iadd (z := (((1 + t) : Nat) : Int)) hx hb wdX12_isFall_6 (by omega) ?_
  refine g_iald F w (a := 148) rfl (j := (1 + t)) (ix_n (by omega)) (by omega) wdX12_isFall_7 ?_
  have hK0 := (hKL t (by omega)).1
  refine r_val (v := (zI (((o.2.1 t) : Nat) : Int))) (hW.2.2.2.2.1 t (by omega)) ?_
  refine lv_iconst (v := zI 2) hx hb wdX12_isFall_8 rfl ?_
  refine z_icmp_eq (tgt := 14) hx hb (by omega) (by omega) wdX12_isFall_9 (by decide) (fun c1 => ?_) (fun c1 => ?_)
  · refine lv_iconst (v := zI 0) hx hb wdX12_isFall_14 rfl ?_
    refine lv_istore_n (lv' := [(2, .int (zI 0)), (0, .ref (B + 146)), (1, .int (zI (t : Int)))]) hx hb wdX12_isFall_15 rfl hl (by decide) rfl (fun ls hl => ?_)
    refine lv_iload_n hx hb wdX12_isFall_16 rfl (lv_at hl 2 rfl) ?_
    refine lv_iconst (v := zI 1) hx hb wdX12_isFall_17 rfl ?_
    refine z_isub (z := ((t : Int) - 1)) hx hb wdX12_isFall_18 (by omega) ?_
    refine lv_istore_n (lv' := [(3, .int (zI ((t : Int) - 1))), (2, .int (zI 0)), (0, .ref (B + 146)), (1, .int (zI (t : Int)))]) hx hb wdX12_isFall_19 rfl hl (by decide) rfl (fun ls hl => ?_)
    refine lp_X12_isFall  F hr hlocks (Nat.le_of_ble_eq_true rfl) (Nat.le_of_ble_eq_true rfl) hR ht (by omega) (fun k lw H locs ls x0 w hl => ?_) t t 0 (Nat.le_refl _) bkI_0 (by omega) (by omega) _ _ ls w (lv_sub hl [0, 1, 2, 3] rfl)
    refine lv_iconst (v := zI 0) hx hb wdX12_isFall_65 rfl ?_
    exact e_z F w hr hlocks (nar_z (by omega)) ⟨Or.inr ⟨x0, rfl⟩, rfl⟩ wdX12_isFall_66
  · refine lv_iconst (v := zI 0) hx hb wdX12_isFall_12 rfl ?_
    exact e_z F w hr hlocks (nar_z (by omega)) ⟨Or.inr ⟨fun h9 => by have h8 := h9.1; omega, rfl⟩, rfl⟩ wdX12_isFall_13
theorem wdX12_fallsTo_4 : decode cX12_fallsTo 4 = .ok (.iload_n 3, 1) := dX12_fallsTo_4
theorem wdX12_fallsTo_5 : decode cX12_fallsTo 5 = .ok (.iload_n 1, 1) := dX12_fallsTo_5
theorem wdX12_fallsTo_6 : decode cX12_fallsTo 6 = .ok (.if_icmp .gt 20, 3) := dX12_fallsTo_6
theorem wdX12_fallsTo_9 : decode cX12_fallsTo 9 = .ok (.aload_n 0, 1) := dX12_fallsTo_9
theorem wdX12_fallsTo_10 : decode cX12_fallsTo 10 = .ok (.iload_n 3, 1) := dX12_fallsTo_10
theorem wdX12_fallsTo_11 : decode cX12_fallsTo 11 = .ok (.invokevirtual 258, 3) := dX12_fallsTo_11
theorem wtk_X12_isFall : Cond.code yX12_isFall cX12_isFall 4 (some .boolean) ∈ TB := tk_X12_isFall
theorem wgc_X12_isFall : GoodIn TB (cw yX12_isFall cX12_isFall 4 (some .boolean)) := goodIn_c2 wtk_X12_isFall
theorem wtb_334 : Cond.methodLink "ToneLinesModel" 258 yX12_isFall ∈ TB := tb_605
theorem wtb_335 : Cond.instanceMethod yX12_isFall ∈ TB := tb_606
theorem wtb_336 : Cond.selects "ToneLinesModel" yX12_isFall yX12_isFall ∈ TB := tb_607
theorem wgv_X12_258 : GoodIn TB (wsV RX12 258 RX12 yX12_isFall (cw yX12_isFall cX12_isFall 4 (some .boolean))) := goodIn_4 wtb_334 wtb_335 wtb_336 wtb_105 wgc_X12_isFall
theorem whv_X12_isFall : yX12_isFall.cls = RX12 ∧ yX12_isFall.cls ≠ "java/lang/invoke/MethodHandle" ∧ yX12_isFall.cls ≠ "java/lang/invoke/VarHandle" ∧ (parseMethodDescriptor yX12_isFall.desc).map (fun d => d.parameters.length) = some 1 := hv_X12_isFall
theorem wdX12_fallsTo_14 : decode cX12_fallsTo 14 = .ok (.ifCond .eq 6, 3) := dX12_fallsTo_14
theorem wdX12_fallsTo_17 : decode cX12_fallsTo 17 = .ok (.iinc 2 1, 3) := dX12_fallsTo_17
theorem wdX12_fallsTo_20 : decode cX12_fallsTo 20 = .ok (.iinc 3 1, 3) := dX12_fallsTo_20
theorem wdX12_fallsTo_23 : decode cX12_fallsTo 23 = .ok (.goto (-19), 3) := dX12_fallsTo_23
set_option maxRecDepth 4000 in
theorem lp_X12_fallsTo {p : Program} {l : Launch} {e : Env} {s : State} {m : MethodId} {args : Array Value} {below : List Frame} {meth : Method} {c : Code} {D : va_G} {B : Nat} {cy : Nat → ClassId} {H0 : Heap} {Q : State → Prop} {M : Mem} {R : Room} {q hv ed m9 : Nat} {o : Wo} {z9 : Int} (F : CallFix p m c cX12_fallsTo 4 s args TB RX12) (hR1 : 1 ≤ R.frames) (hR2 : 23 ≤ R.locals) (hR : RW M q hv ed o z9) (hm9 : m9 ≤ o.1) (kk : ∀ (u : Nat) (H : Heap) (locs : List Loc) (ls : Array Slot), (u = m9) → Wd D B cy s H0 M H locs → lv_has ls 4 [(2, .int (zI (((fwS o.2.1 u).1 : Nat) : Int)))] → W p l e R s m args below meth c H locs 0 0 Q (F0 m 26 ls [])) : ∀ (f : Nat) (u : Nat), (u ≤ m9) → (m9 ≤ u + f) → ∀ (H : Heap) (locs : List Loc) (ls : Array Slot), Wd D B cy s H0 M H locs → lv_has ls 4 [(3, .int (zI (u : Int))), (2, .int (zI (((fwS o.2.1 u).1 : Nat) : Int))), (0, .ref (B + 146)), (1, .int (zI ((m9 : Int) - 1)))] → W p l e R s m args below meth c H locs 0 0 Q (F0 m 4 ls []) := by
  have hx := F.1
  have hb := F.2.1
  have hW := hR.1
  have hwf := hR.wf
  have hKL := hwf.2.2.2.2
  have hn12 := hwf.1
  have hq12 := hwf.2.1
  have hhv := hwf.2.2.1
  have hed := hwf.2.2.2.1
  have hc := hR.2.2.2.2
  intro f
  induction f with
  | zero =>
    intro u i0 hf H locs ls w hl
    have hfb := fw_b (K := o.2.1) u
    refine lv_iload_n hx hb wdX12_fallsTo_4 rfl (lv_at hl 0 rfl) ?_
    refine lv_iload_n hx hb wdX12_fallsTo_5 rfl (lv_at hl 3 rfl) ?_
    refine z_icmp_gt (tgt := 26) hx hb (by omega) (by omega) wdX12_fallsTo_6 (by decide) (fun c1 => ?_) (fun c1 => False.elim (by omega))
    exact kk u _ _ ls (by omega) w (lv_sub hl [1] rfl)
  | succ f ih =>
    intro u i0 hf H locs ls w hl
    have hfb := fw_b (K := o.2.1) u
    refine lv_iload_n hx hb wdX12_fallsTo_4 rfl (lv_at hl 0 rfl) ?_
    refine lv_iload_n hx hb wdX12_fallsTo_5 rfl (lv_at hl 3 rfl) ?_
    refine z_icmp_gt (tgt := 26) hx hb (by omega) (by omega) wdX12_fallsTo_6 (by decide) (fun c1 => ?_) (fun c1 => ?_)
    · exact kk u _ _ ls (by omega) w (lv_sub hl [1] rfl)
    · refine lv_aload_n hx hb wdX12_fallsTo_9 rfl (lv_at hl 2 rfl) ?_
      refine lv_iload_n hx hb wdX12_fallsTo_10 rfl (lv_at hl 0 rfl) ?_
      refine k_Vi F w (As := [.int (zI (u : Int))]) (rest := []) (a := 146) (kd_lt (a := 146) (show kd 146 = (12, 0, 0) from rfl) (by decide)) (sh_12 rfl _ _) rfl (k_isFall hR (t := u) (by omega)) wgv_X12_258 whv_X12_isFall ⟨(by omega), (by omega)⟩ hl.1 rfl (Nat.le_of_ble_eq_true rfl) ⟨Nat.zero_le _, Nat.zero_le _⟩ wdX12_fallsTo_11 (fun r Ma3 H locs hp w => ?_)
      rcases hp with ⟨⟨hb2, rfl⟩ | ⟨hb2, rfl⟩, hMe⟩
      · rw [hMe] at w
        refine z_if_eq (tgt := 20) hx hb (by omega) wdX12_fallsTo_14 (by decide) (fun c4 => False.elim (by omega)) (fun c4 => ?_)
        refine z_iinc (v := ((((fwS o.2.1 u).1 + 1) : Nat) : Int)) (lv' := [(2, .int (zI ((((fwS o.2.1 u).1 + 1) : Nat) : Int))), (3, .int (zI (u : Int))), (0, .ref (B + 146)), (1, .int (zI ((m9 : Int) - 1)))]) hx hb wdX12_fallsTo_17 hl (k := 1) rfl (by omega) (by decide) rfl (fun ls hl => ?_)
        refine z_iinc (v := (((u + 1) : Nat) : Int)) (lv' := [(3, .int (zI (((u + 1) : Nat) : Int))), (2, .int (zI ((((fwS o.2.1 u).1 + 1) : Nat) : Int))), (0, .ref (B + 146)), (1, .int (zI ((m9 : Int) - 1)))]) hx hb wdX12_fallsTo_20 hl (k := 1) rfl (by omega) (by decide) rfl (fun ls hl => ?_)
        refine lv_goto (tgt := 4) hx hb wdX12_fallsTo_23 (by decide) ?_
        replace hl : lv_has ls 4 [(3, .int (zI (((u + 1) : Nat) : Int))), (2, .int (zI (((fwS o.2.1 (u + 1)).1 : Nat) : Int))), (0, .ref (B + 146)), (1, .int (zI ((m9 : Int) - 1)))] := by rw [(fw_s (K := o.2.1) (u := u)).1 hb2]; exact hl
        exact ih (u + 1) (by omega) (by omega) _ _ ls w (lv_sub hl [0, 1, 2, 3] rfl)
      · rw [hMe] at w
        refine z_if_eq (tgt := 20) hx hb (by omega) wdX12_fallsTo_14 (by decide) (fun c5 => ?_) (fun c5 => False.elim (by omega))
        refine z_iinc (v := (((u + 1) : Nat) : Int)) (lv' := [(3, .int (zI (((u + 1) : Nat) : Int))), (2, .int (zI (((fwS o.2.1 u).1 : Nat) : Int))), (0, .ref (B + 146)), (1, .int (zI ((m9 : Int) - 1)))]) hx hb wdX12_fallsTo_20 hl (k := 0) rfl (by omega) (by decide) rfl (fun ls hl => ?_)
        refine lv_goto (tgt := 4) hx hb wdX12_fallsTo_23 (by decide) ?_
        replace hl : lv_has ls 4 [(3, .int (zI (((u + 1) : Nat) : Int))), (2, .int (zI (((fwS o.2.1 (u + 1)).1 : Nat) : Int))), (0, .ref (B + 146)), (1, .int (zI ((m9 : Int) - 1)))] := by rw [(fw_s (K := o.2.1) (u := u)).2 hb2]; exact hl
        exact ih (u + 1) (by omega) (by omega) _ _ ls w (lv_sub hl [0, 1, 2, 3] rfl)
theorem wdX12_fallsTo_0 : decode cX12_fallsTo 0 = .ok (.iconst 0, 1) := dX12_fallsTo_0
theorem wdX12_fallsTo_1 : decode cX12_fallsTo 1 = .ok (.istore_n 2, 1) := dX12_fallsTo_1
theorem wdX12_fallsTo_2 : decode cX12_fallsTo 2 = .ok (.iconst 0, 1) := dX12_fallsTo_2
theorem wdX12_fallsTo_3 : decode cX12_fallsTo 3 = .ok (.istore_n 3, 1) := dX12_fallsTo_3
theorem wdX12_fallsTo_26 : decode cX12_fallsTo 26 = .ok (.iload_n 2, 1) := dX12_fallsTo_26
theorem wdX12_fallsTo_27 : decode cX12_fallsTo 27 = .ok (.ireturn, 1) := dX12_fallsTo_27
set_option maxRecDepth 4000 in
theorem k_fallsTo {l : Launch} {D : va_G} {B : Nat} {cy : Nat → ClassId} {M : Mem} {q hv ed : Nat} {o : Wo} {z9 : Int} (hR : RW M q hv ed o z9) {m9 : Nat} (hm9 : m9 ≤ o.1) : Ci l D B cy yX12_fallsTo cX12_fallsTo 4 (some .int) 1 23 [.ref (B + 146), .int (zI ((m9 : Int) - 1))] M (fun r M1 => r = zI (((fwS o.2.1 m9).1 : Nat) : Int) ∧ M1 = M) := by
  refine s_any (by decide) (Nat.le_of_ble_eq_true rfl) ?_
  intro p e s m below meth c ls F hr hlocks w hl
  have F : CallFix p m c cX12_fallsTo 4 s _ TB RX12 := F
  have hx := F.1
  have hb := F.2.1
  have hl : lv_has ls 4 [(0, .ref (B + 146)), (1, .int (zI ((m9 : Int) - 1)))] := hl
  have hW := hR.1
  have hwf := hR.wf
  have hKL := hwf.2.2.2.2
  have hn12 := hwf.1
  have hq12 := hwf.2.1
  have hhv := hwf.2.2.1
  have hed := hwf.2.2.2.1
  have hc := hR.2.2.2.2
  have hfm := fw_b (K := o.2.1) m9
  refine lv_iconst (v := zI 0) hx hb wdX12_fallsTo_0 rfl ?_
  refine lv_istore_n (lv' := [(2, .int (zI 0)), (0, .ref (B + 146)), (1, .int (zI ((m9 : Int) - 1)))]) hx hb wdX12_fallsTo_1 rfl hl (by decide) rfl (fun ls hl => ?_)
  refine lv_iconst (v := zI 0) hx hb wdX12_fallsTo_2 rfl ?_
  refine lv_istore_n (lv' := [(3, .int (zI 0)), (2, .int (zI 0)), (0, .ref (B + 146)), (1, .int (zI ((m9 : Int) - 1)))]) hx hb wdX12_fallsTo_3 rfl hl (by decide) rfl (fun ls hl => ?_)
  refine lp_X12_fallsTo  F (Nat.le_of_ble_eq_true rfl) (Nat.le_of_ble_eq_true rfl) hR hm9 (fun u H locs ls x0 w hl => ?_) m9 0 (by omega) (by omega) _ _ ls w (lv_sub hl [0, 1, 2, 3] rfl)
  rw [x0] at hl
  refine lv_iload_n hx hb wdX12_fallsTo_26 rfl (lv_at hl 0 rfl) ?_
  exact e_i F w hr hlocks ⟨rfl, rfl⟩ wdX12_fallsTo_27
theorem wdX12_orNeither_0 : decode cX12_orNeither 0 = .ok (.iload_n 0, 1) := dX12_orNeither_0
theorem wdX12_orNeither_1 : decode cX12_orNeither 1 = .ok (.iconst (-1), 1) := dX12_orNeither_1
theorem wdX12_orNeither_2 : decode cX12_orNeither 2 = .ok (.if_icmp .ne 8, 3) := dX12_orNeither_2
theorem wdX12_orNeither_10 : decode cX12_orNeither 10 = .ok (.iload_n 0, 1) := dX12_orNeither_10
theorem wdX12_orNeither_11 : decode cX12_orNeither 11 = .ok (.ireturn, 1) := dX12_orNeither_11
theorem wdX12_orNeither_5 : decode cX12_orNeither 5 = .ok (.bipush (-2), 2) := dX12_orNeither_5
theorem wdX12_orNeither_7 : decode cX12_orNeither 7 = .ok (.goto 4, 3) := dX12_orNeither_7
set_option maxRecDepth 4000 in
theorem k_orNeither {l : Launch} {D : va_G} {B : Nat} {cy : Nat → ClassId} {M : Mem} {x9 : Int} (hx9 : rg x9) : Ci l D B cy yX12_orNeither cX12_orNeither 1 (some .int) 0 0 [.int (zI x9)] M (fun r M1 => r = zI (orN x9) ∧ M1 = M) := by
  refine s_any (by decide) (Nat.le_of_ble_eq_true rfl) ?_
  intro p e s m below meth c ls F hr hlocks w hl
  have F : CallFix p m c cX12_orNeither 1 s _ TB RX12 := F
  have hx := F.1
  have hb := F.2.1
  have hl : lv_has ls 1 [(0, .int (zI x9))] := hl
  refine lv_iload_n hx hb wdX12_orNeither_0 rfl (lv_at hl 0 rfl) ?_
  refine lv_iconst (v := zI (-1)) hx hb wdX12_orNeither_1 rfl ?_
  refine z_icmp_ne (tgt := 10) hx hb (by omega) (by omega) wdX12_orNeither_2 (by decide) (fun c1 => ?_) (fun c1 => ?_)
  · refine lv_iload_n hx hb wdX12_orNeither_10 rfl (lv_at hl 0 rfl) ?_
    exact e_i F w hr hlocks ⟨congrArg zI (orN_n (by omega)).symm, rfl⟩ wdX12_orNeither_11
  · refine lv_bipush (v := zI (-2)) hx hb wdX12_orNeither_5 (by decide) ?_
    refine lv_goto (tgt := 11) hx hb wdX12_orNeither_7 (by decide) ?_
    exact e_i F w hr hlocks ⟨congrArg zI (orN_y (by omega)).symm, rfl⟩ wdX12_orNeither_11
