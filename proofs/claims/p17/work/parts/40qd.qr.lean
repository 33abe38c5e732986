theorem wdX12_isFall_20 : decode cX12_isFall 20 = .ok (.iload_n 3, 1) := by decide +kernel
theorem wdX12_isFall_21 : decode cX12_isFall 21 = .ok (.ifCond .lt 44, 3) := by decide +kernel
theorem wdX12_isFall_24 : decode cX12_isFall 24 = .ok (.aload_n 0, 1) := by decide +kernel
theorem wdX12_isFall_25 : decode cX12_isFall 25 = .ok (.getfield 17, 3) := by decide +kernel
theorem wdX12_isFall_28 : decode cX12_isFall 28 = .ok (.iconst 1, 1) := by decide +kernel
theorem wdX12_isFall_29 : decode cX12_isFall 29 = .ok (.iload_n 3, 1) := by decide +kernel
theorem wdX12_isFall_30 : decode cX12_isFall 30 = .ok (.iadd, 1) := by decide +kernel
theorem wdX12_isFall_31 : decode cX12_isFall 31 = .ok (.iaload, 1) := by decide +kernel
theorem wdX12_isFall_32 : decode cX12_isFall 32 = .ok (.iconst 2, 1) := by decide +kernel
theorem wdX12_isFall_33 : decode cX12_isFall 33 = .ok (.if_icmp .ne 5, 3) := by decide +kernel
theorem wdX12_isFall_38 : decode cX12_isFall 38 = .ok (.iload_n 2, 1) := by decide +kernel
theorem wdX12_isFall_39 : decode cX12_isFall 39 = .ok (.ifCond .ne 14, 3) := by decide +kernel
theorem wdX12_isFall_53 : decode cX12_isFall 53 = .ok (.iconst 1, 1) := by decide +kernel
theorem wdX12_isFall_54 : decode cX12_isFall 54 = .ok (.goto 4, 3) := by decide +kernel
theorem wdX12_isFall_58 : decode cX12_isFall 58 = .ok (.istore_n 2, 1) := by decide +kernel
theorem wdX12_isFall_59 : decode cX12_isFall 59 = .ok (.iinc 3 (-1), 3) := by decide +kernel
theorem wdX12_isFall_62 : decode cX12_isFall 62 = .ok (.goto (-42), 3) := by decide +kernel
theorem wdX12_isFall_42 : decode cX12_isFall 42 = .ok (.aload_n 0, 1) := by decide +kernel
theorem wdX12_isFall_43 : decode cX12_isFall 43 = .ok (.getfield 17, 3) := by decide +kernel
theorem wdX12_isFall_46 : decode cX12_isFall 46 = .ok (.iconst 1, 1) := by decide +kernel
theorem wdX12_isFall_47 : decode cX12_isFall 47 = .ok (.iload_n 3, 1) := by decide +kernel
theorem wdX12_isFall_48 : decode cX12_isFall 48 = .ok (.iadd, 1) := by decide +kernel
theorem wdX12_isFall_49 : decode cX12_isFall 49 = .ok (.iaload, 1) := by decide +kernel
theorem wdX12_isFall_50 : decode cX12_isFall 50 = .ok (.ifCond .ne 7, 3) := by decide +kernel
theorem wdX12_isFall_57 : decode cX12_isFall 57 = .ok (.iconst 0, 1) := by decide +kernel
theorem wdX12_isFall_36 : decode cX12_isFall 36 = .ok (.iload_n 2, 1) := by decide +kernel
theorem wdX12_isFall_37 : decode cX12_isFall 37 = .ok (.ireturn, 1) := by decide +kernel
set_option maxRecDepth 4000 in
theorem lp_X12_isFall {p : Program} {l : Launch} {e : Env} {s : State} {m : MethodId} {args : Array Value} {below : List Frame} {meth : Method} {c : Code} {D : va_G} {B : Nat} {cy : Nat → ClassId}  {M : Mem} {R : Room} {q hv ed t : Nat} {o : Wo} {z9 : Int} (F : CallFix p m c cX12_isFall 4 s args TB RX12) (hr : meth.sig.returnType = (some .boolean)) (hlocks : meth.locks = false) (hR1 : 0 ≤ R.frames) (hR2 : 0 ≤ R.locals) (hR : RW M q hv ed o z9) (ht : t < o.1) (hK2 : o.2.1 t = 2) (kk : ∀ (k : Nat) (lw : Nat) (H : Heap) (locs : List Loc) (ls : Array Slot), (¬ isF o.2.1 t) → Wd D B cy s s.heap M H locs → lv_has ls 4 [(0, .ref (B + 146))] → W p l e R s m args below meth c H locs 0 0 (MQ below (va_Qi (fun r M1 => ((isF o.2.1 t) ∧ r = zI 1 ∨ ¬ (isF o.2.1 t) ∧ r = zI 0) ∧ M1 = M) (fun M2 t2 => Wp D B cy M2 t2) (fun q2 => B ≤ q2)) args s 0 0 (fun q2 => B ≤ q2)) (F0 m 65 ls [])) : ∀ (f : Nat) (k : Nat) (lw : Nat), (k ≤ t) → (bkI o.2.1 t k lw) → (lw ≤ 1) → (k ≤ f) → ∀ (H : Heap) (locs : List Loc) (ls : Array Slot), Wd D B cy s s.heap M H locs → lv_has ls 4 [(3, .int (zI ((k : Int) - 1))), (2, .int (zI (lw : Int))), (0, .ref (B + 146)), (1, .int (zI (t : Int)))] → W p l e R s m args below meth c H locs 0 0 (MQ below (va_Qi (fun r M1 => ((isF o.2.1 t) ∧ r = zI 1 ∨ ¬ (isF o.2.1 t) ∧ r = zI 0) ∧ M1 = M) (fun M2 t2 => Wp D B cy M2 t2) (fun q2 => B ≤ q2)) args s 0 0 (fun q2 => B ≤ q2)) (F0 m 20 ls []) := by
  have hx := F.1
  have hb := F.2.1
  have hW := hR.1
  have hwf := hR.wf
  have hKL := hwf.2.2.2.2
  have hn12 := hwf.1
  have hq12 := hwf.2.1
  have hhv := hwf.2.2.1
  have hed := hwf.2.2.2.1
  have hc := hR.2.2.2.2
  intro f
  induction f with
  | zero =>
    intro k lw i0 i1 i2 hf H locs ls w hl
    refine lv_iload_n hx hb wdX12_isFall_20 rfl (lv_at hl 0 rfl) ?_
    refine z_if_lt (tgt := 65) hx hb (by omega) wdX12_isFall_21 (by decide) (fun c1 => ?_) (fun c1 => False.elim (by omega))
    exact kk k lw _ _ ls (bkI_e (by rw [show 0 = k by omega]; exact i1)) w (lv_sub hl [2] rfl)
  | succ f ih =>
    intro k lw i0 i1 i2 hf H locs ls w hl
    refine lv_iload_n hx hb wdX12_isFall_20 rfl (lv_at hl 0 rfl) ?_
    refine z_if_lt (tgt := 65) hx hb (by omega) wdX12_isFall_21 (by decide) (fun c1 => ?_) (fun c1 => ?_)
    · exact kk k lw _ _ ls (bkI_e (by rw [show 0 = k by omega]; exact i1)) w (lv_sub hl [2] rfl)
    · obtain ⟨j, rfl⟩ : ∃ j, k = j + 1 := ⟨k - 1, by omega⟩
      replace hl : lv_has ls 4 [(3, .int (zI (j : Int))), (2, .int (zI (lw : Int))), (0, .ref (B + 146)), (1, .int (zI (t : Int)))] := by rw [show ((j + 1 : Nat) : Int) - 1 = (j : Int) by omega] at hl; exact hl
      refine lv_aload_n hx hb wdX12_isFall_24 rfl (lv_at hl 2 rfl) ?_
      refine f_12_2 F w (a := 146) rfl wtb_102 wdX12_isFall_25 ?_
      refine lv_iconst (v := zI 1) hx hb wdX12_isFall_28 rfl ?_
      refine lv_iload_n hx hb wdX12_isFall_29 rfl (lv_at hl 0 rfl) ?_
      refine z_iadd (z := (((1 + j) : Nat) : Int)) hx hb wdX12_isFall_30 (by omega) ?_
      refine g_iald F w (a := 148) rfl (j := (1 + j)) (ix_n (by omega)) (by omega) wdX12_isFall_31 ?_
      have hK1 := (hKL j (by omega)).1
      refine r_val (v := (zI (((o.2.1 j) : Nat) : Int))) (hW.2.2.2.2.1 j (by omega)) ?_
      refine lv_iconst (v := zI 2) hx hb wdX12_isFall_32 rfl ?_
      refine z_icmp_ne (tgt := 38) hx hb (by omega) (by omega) wdX12_isFall_33 (by decide) (fun c2 => ?_) (fun c2 => ?_)
      · refine lv_iload_n hx hb wdX12_isFall_38 rfl (lv_at hl 1 rfl) ?_
        refine z_if_ne (tgt := 53) hx hb (by omega) wdX12_isFall_39 (by decide) (fun c3 => ?_) (fun c3 => ?_)
        · refine lv_iconst (v := zI 1) hx hb wdX12_isFall_53 rfl ?_
          refine lv_goto (tgt := 58) hx hb wdX12_isFall_54 (by decide) ?_
          refine lv_istore_n (lv' := [(2, .int (zI 1)), (3, .int (zI (j : Int))), (0, .ref (B + 146)), (1, .int (zI (t : Int)))]) hx hb wdX12_isFall_58 rfl hl (by decide) rfl (fun ls hl => ?_)
          refine z_iinc (v := ((j : Int) - 1)) (lv' := [(3, .int (zI ((j : Int) - 1))), (2, .int (zI 1)), (0, .ref (B + 146)), (1, .int (zI (t : Int)))]) hx hb wdX12_isFall_59 hl (k := 1) rfl (by omega) (by decide) rfl (fun ls hl => ?_)
          refine lv_goto (tgt := 20) hx hb wdX12_isFall_62 (by decide) ?_
          exact ih j 1 (by omega) (by first | exact bkI_l i1 (by omega) | exact bkI_s1 i1 (by omega) (by omega) (by omega)) (by omega) (by omega) _ _ ls w (lv_sub hl [0, 1, 2, 3] rfl)
        · refine lv_aload_n hx hb wdX12_isFall_42 rfl (lv_at hl 2 rfl) ?_
          refine f_12_2 F w (a := 146) rfl wtb_102 wdX12_isFall_43 ?_
          refine lv_iconst (v := zI 1) hx hb wdX12_isFall_46 rfl ?_
          refine lv_iload_n hx hb wdX12_isFall_47 rfl (lv_at hl 0 rfl) ?_
          refine z_iadd (z := (((1 + j) : Nat) : Int)) hx hb wdX12_isFall_48 (by omega) ?_
          refine g_iald F w (a := 148) rfl (j := (1 + j)) (ix_n (by omega)) (by omega) wdX12_isFall_49 ?_
          have hK3 := (hKL j (by omega)).1
          refine r_val (v := (zI (((o.2.1 j) : Nat) : Int))) (hW.2.2.2.2.1 j (by omega)) ?_
          refine z_if_ne (tgt := 57) hx hb (by omega) wdX12_isFall_50 (by decide) (fun c4 => ?_) (fun c4 => ?_)
          · refine lv_iconst (v := zI 0) hx hb wdX12_isFall_57 rfl ?_
            refine lv_istore_n (lv' := [(2, .int (zI 0)), (3, .int (zI (j : Int))), (0, .ref (B + 146)), (1, .int (zI (t : Int)))]) hx hb wdX12_isFall_58 rfl hl (by decide) rfl (fun ls hl => ?_)
            refine z_iinc (v := ((j : Int) - 1)) (lv' := [(3, .int (zI ((j : Int) - 1))), (2, .int (zI 0)), (0, .ref (B + 146)), (1, .int (zI (t : Int)))]) hx hb wdX12_isFall_59 hl (k := 1) rfl (by omega) (by decide) rfl (fun ls hl => ?_)
            refine lv_goto (tgt := 20) hx hb wdX12_isFall_62 (by decide) ?_
            exact ih j 0 (by omega) (bkI_s0 i1 (by omega) (by omega) (by omega)) (by omega) (by omega) _ _ ls w (lv_sub hl [0, 1, 2, 3] rfl)
          · refine lv_iconst (v := zI 1) hx hb wdX12_isFall_53 rfl ?_
            refine lv_goto (tgt := 58) hx hb wdX12_isFall_54 (by decide) ?_
            refine lv_istore_n (lv' := [(2, .int (zI 1)), (3, .int (zI (j : Int))), (0, .ref (B + 146)), (1, .int (zI (t : Int)))]) hx hb wdX12_isFall_58 rfl hl (by decide) rfl (fun ls hl => ?_)
            refine z_iinc (v := ((j : Int) - 1)) (lv' := [(3, .int (zI ((j : Int) - 1))), (2, .int (zI 1)), (0, .ref (B + 146)), (1, .int (zI (t : Int)))]) hx hb wdX12_isFall_59 hl (k := 1) rfl (by omega) (by decide) rfl (fun ls hl => ?_)
            refine lv_goto (tgt := 20) hx hb wdX12_isFall_62 (by decide) ?_
            exact ih j 1 (by omega) (by first | exact bkI_l i1 (by omega) | exact bkI_s1 i1 (by omega) (by omega) (by omega)) (by omega) (by omega) _ _ ls w (lv_sub hl [0, 1, 2, 3] rfl)
      · refine lv_iload_n hx hb wdX12_isFall_36 rfl (lv_at hl 1 rfl) ?_
        exact e_z F w hr hlocks (nar_z (by omega)) ⟨bk_out (bkI_h i1 (by omega) (by omega)) (by omega), rfl⟩ wdX12_isFall_37
theorem wdX12_isFall_0 : decode cX12_isFall 0 = .ok (.aload_n 0, 1) := by decide +kernel
theorem wdX12_isFall_1 : decode cX12_isFall 1 = .ok (.getfield 17, 3) := by decide +kernel
theorem wdX12_isFall_4 : decode cX12_isFall 4 = .ok (.iconst 1, 1) := by decide +kernel
theorem wdX12_isFall_5 : decode cX12_isFall 5 = .ok (.iload_n 1, 1) := by decide +kernel
theorem wdX12_isFall_6 : decode cX12_isFall 6 = .ok (.iadd, 1) := by decide +kernel
theorem wdX12_isFall_7 : decode cX12_isFall 7 = .ok (.iaload, 1) := by decide +kernel
theorem wdX12_isFall_8 : decode cX12_isFall 8 = .ok (.iconst 2, 1) := by decide +kernel
theorem wdX12_isFall_9 : decode cX12_isFall 9 = .ok (.if_icmp .eq 5, 3) := by decide +kernel
theorem wdX12_isFall_14 : decode cX12_isFall 14 = .ok (.iconst 0, 1) := by decide +kernel
theorem wdX12_isFall_15 : decode cX12_isFall 15 = .ok (.istore_n 2, 1) := by decide +kernel
theorem wdX12_isFall_16 : decode cX12_isFall 16 = .ok (.iload_n 1, 1) := by decide +kernel
theorem wdX12_isFall_17 : decode cX12_isFall 17 = .ok (.iconst 1, 1) := by decide +kernel
theorem wdX12_isFall_18 : decode cX12_isFall 18 = .ok (.isub, 1) := by decide +kernel
theorem wdX12_isFall_19 : decode cX12_isFall 19 = .ok (.istore_n 3, 1) := by decide +kernel
theorem wdX12_isFall_65 : decode cX12_isFall 65 = .ok (.iconst 0, 1) := by decide +kernel
theorem wdX12_isFall_66 : decode cX12_isFall 66 = .ok (.ireturn, 1) := by decide +kernel
theorem wdX12_isFall_12 : decode cX12_isFall 12 = .ok (.iconst 0, 1) := by decide +kernel
theorem wdX12_isFall_13 : decode cX12_isFall 13 = .ok (.ireturn, 1) := by decide +kernel
set_option maxRecDepth 4000 in
theorem k_isFall {l : Launch} {D : va_G} {B : Nat} {cy : Nat → ClassId} {M : Mem} {q hv ed : Nat} {o : Wo} {z9 : Int} (hR : RW M q hv ed o z9) {t : Nat} (ht : t < o.1) : Ci l D B cy yX12_isFall cX12_isFall 4 (some .boolean) 0 0 [.ref (B + 146), .int (zI (t : Int))] M (fun r M1 => ((isF o.2.1 t) ∧ r = zI 1 ∨ ¬ (isF o.2.1 t) ∧ r = zI 0) ∧ M1 = M) := by
  refine s_any (by decide) (Nat.le_of_ble_eq_true rfl) ?_
  intro p e s m below meth c ls F hr hlocks w hl
  have F : CallFix p m c cX12_isFall 4 s _ TB RX12 := F
  have hx := F.1
  have hb := F.2.1
  have hl : lv_has ls 4 [(0, .ref (B + 146)), (1, .int (zI (t : Int)))] := hl
  have hW := hR.1
  have hwf := hR.wf
  have hKL := hwf.2.2.2.2
  have hn12 := hwf.1
  have hq12 := hwf.2.1
  have hhv := hwf.2.2.1
  have hed := hwf.2.2.2.1
  have hc := hR.2.2.2.2
  refine lv_aload_n hx hb wdX12_isFall_0 rfl (lv_at hl 0 rfl) ?_
  refine f_12_2 F w (a := 146) rfl wtb_102 wdX12_isFall_1 ?_
  refine lv_iconst (v := zI 1) hx hb wdX12_isFall_4 rfl ?_
  refine lv_iload_n hx hb wdX12_isFall_5 rfl (lv_at hl 1 rfl) ?_
  refine z_iadd (z := (((1 + t) : Nat) : Int)) hx hb wdX12_isFall_6 (by omega) ?_
  refine g_iald F w (a := 148) rfl (j := (1 + t)) (ix_n (by omega)) (by omega) wdX12_isFall_7 ?_
  have hK0 := (hKL t (by omega)).1
  refine r_val (v := (zI (((o.2.1 t) : Nat) : Int))) (hW.2.2.2.2.1 t (by omega)) ?_
  refine lv_iconst (v := zI 2) hx hb wdX12_isFall_8 rfl ?_
  refine z_icmp_eq (tgt := 14) hx hb (by omega) (by omega) wdX12_isFall_9 (by decide) (fun c1 => ?_) (fun c1 => ?_)
  · refine lv_iconst (v := zI 0) hx hb wdX12_isFall_14 rfl ?_
    refine lv_istore_n (lv' := [(2, .int (zI 0)), (0, .ref (B + 146)), (1, .int (zI (t : Int)))]) hx hb wdX12_isFall_15 rfl hl (by decide) rfl (fun ls hl => ?_)
    refine lv_iload_n hx hb wdX12_isFall_16 rfl (lv_at hl 2 rfl) ?_
    refine lv_iconst (v := zI 1) hx hb wdX12_isFall_17 rfl ?_
    refine z_isub (z := ((t : Int) - 1)) hx hb wdX12_isFall_18 (by omega) ?_
    refine lv_istore_n (lv' := [(3, .int (zI ((t : Int) - 1))), (2, .int (zI 0)), (0, .ref (B + 146)), (1, .int (zI (t : Int)))]) hx hb wdX12_isFall_19 rfl hl (by decide) rfl (fun ls hl => ?_)
    refine lp_X12_isFall  F hr hlocks (Nat.le_of_ble_eq_true rfl) (Nat.le_of_ble_eq_true rfl) hR ht (by omega) (fun k lw H locs ls x0 w hl => ?_) t t 0 (Nat.le_refl _) bkI_0 (by omega) (by omega) _ _ ls w (lv_sub hl [0, 1, 2, 3] rfl)
    refine lv_iconst (v := zI 0) hx hb wdX12_isFall_65 rfl ?_
    exact e_z F w hr hlocks (nar_z (by omega)) ⟨Or.inr ⟨x0, rfl⟩, rfl⟩ wdX12_isFall_66
  · refine lv_iconst (v := zI 0) hx hb wdX12_isFall_12 rfl ?_
    exact e_z F w hr hlocks (nar_z (by omega)) ⟨Or.inr ⟨fun h9 => by have h8 := h9.1; omega, rfl⟩, rfl⟩ wdX12_isFall_13
theorem wdX12_fallsTo_4 : decode cX12_fallsTo 4 = .ok (.iload_n 3, 1) := by decide +kernel
theorem wdX12_fallsTo_5 : decode cX12_fallsTo 5 = .ok (.iload_n 1, 1) := by decide +kernel
theorem wdX12_fallsTo_6 : decode cX12_fallsTo 6 = .ok (.if_icmp .gt 20, 3) := by decide +kernel
theorem wdX12_fallsTo_9 : decode cX12_fallsTo 9 = .ok (.aload_n 0, 1) := by decide +kernel
theorem wdX12_fallsTo_10 : decode cX12_fallsTo 10 = .ok (.iload_n 3, 1) := by decide +kernel
theorem wdX12_fallsTo_11 : decode cX12_fallsTo 11 = .ok (.invokevirtual 258, 3) := by decide +kernel
theorem wtk_X12_isFall : Cond.code yX12_isFall cX12_isFall 4 (some .boolean) ∈ TB := tbm (tc6 (List.mem_of_getElem? (i := 173) rfl)) rfl
theorem wgc_X12_isFall : GoodIn TB (cw yX12_isFall cX12_isFall 4 (some .boolean)) := goodIn_c2 wtk_X12_isFall
theorem wtb_334 : Cond.methodLink "ToneLinesModel" 258 yX12_isFall ∈ TB := tbm (tc6 (List.mem_of_getElem? (i := 170) rfl)) rfl
theorem wtb_335 : Cond.instanceMethod yX12_isFall ∈ TB := tbm (tc6 (List.mem_of_getElem? (i := 172) rfl)) rfl
theorem wtb_336 : Cond.selects "ToneLinesModel" yX12_isFall yX12_isFall ∈ TB := tbp (List.mem_of_getElem? (i := 77) rfl) rfl
theorem wgv_X12_258 : GoodIn TB (wsV RX12 258 RX12 yX12_isFall (cw yX12_isFall cX12_isFall 4 (some .boolean))) := goodIn_4 wtb_334 wtb_335 wtb_336 wtb_105 wgc_X12_isFall
theorem whv_X12_isFall : yX12_isFall.cls = RX12 ∧ yX12_isFall.cls ≠ "java/lang/invoke/MethodHandle" ∧ yX12_isFall.cls ≠ "java/lang/invoke/VarHandle" ∧ (parseMethodDescriptor yX12_isFall.desc).map (fun d => d.parameters.length) = some 1 := by decide +kernel
theorem wdX12_fallsTo_14 : decode cX12_fallsTo 14 = .ok (.ifCond .eq 6, 3) := by decide +kernel
theorem wdX12_fallsTo_17 : decode cX12_fallsTo 17 = .ok (.iinc 2 1, 3) := by decide +kernel
theorem wdX12_fallsTo_20 : decode cX12_fallsTo 20 = .ok (.iinc 3 1, 3) := by decide +kernel
theorem wdX12_fallsTo_23 : decode cX12_fallsTo 23 = .ok (.goto (-19), 3) := by decide +kernel
set_option maxRecDepth 4000 in
theorem lp_X12_fallsTo {p : Program} {l : Launch} {e : Env} {s : State} {m : MethodId} {args : Array Value} {below : List Frame} {meth : Method} {c : Code} {D : va_G} {B : Nat} {cy : Nat → ClassId} {H0 : Heap} {Q : State → Prop} {M : Mem} {R : Room} {q hv ed m9 : Nat} {o : Wo} {z9 : Int} (F : CallFix p m c cX12_fallsTo 4 s args TB RX12) (hR1 : 1 ≤ R.frames) (hR2 : 23 ≤ R.locals) (hR : RW M q hv ed o z9) (hm9 : m9 ≤ o.1) (kk : ∀ (u : Nat) (H : Heap) (locs : List Loc) (ls : Array Slot), (u = m9) → Wd D B cy s H0 M H locs → lv_has ls 4 [(2, .int (zI (((fwS o.2.1 u).1 : Nat) : Int)))] → W p l e R s m args below meth c H locs 0 0 Q (F0 m 26 ls [])) : ∀ (f : Nat) (u : Nat), (u ≤ m9) → (m9 ≤ u + f) → ∀ (H : Heap) (locs : List Loc) (ls : Array Slot), Wd D B cy s H0 M H locs → lv_has ls 4 [(3, .int (zI (u : Int))), (2, .int (zI (((fwS o.2.1 u).1 : Nat) : Int))), (0, .ref (B + 146)), (1, .int (zI ((m9 : Int) - 1)))] → W p l e R s m args below meth c H locs 0 0 Q (F0 m 4 ls []) := by
  have hx := F.1
  have hb := F.2.1
  have hW := hR.1
  have hwf := hR.wf
  have hKL := hwf.2.2.2.2
  have hn12 := hwf.1
  have hq12 := hwf.2.1
  have hhv := hwf.2.2.1
  have hed := hwf.2.2.2.1
  have hc := hR.2.2.2.2
  intro f
  induction f with
  | zero =>
    intro u i0 hf H locs ls w hl
    have hfb := fw_b (K := o.2.1) u
    refine lv_iload_n hx hb wdX12_fallsTo_4 rfl (lv_at hl 0 rfl) ?_
    refine lv_iload_n hx hb wdX12_fallsTo_5 rfl (lv_at hl 3 rfl) ?_
    refine z_icmp_gt (tgt := 26) hx hb (by omega) (by omega) wdX12_fallsTo_6 (by decide) (fun c1 => ?_) (fun c1 => False.elim (by omega))
    exact kk u _ _ ls (by omega) w (lv_sub hl [1] rfl)
  | succ f ih =>
    intro u i0 hf H locs ls w hl
    have hfb := fw_b (K := o.2.1) u
    refine lv_iload_n hx hb wdX12_fallsTo_4 rfl (lv_at hl 0 rfl) ?_
    refine lv_iload_n hx hb wdX12_fallsTo_5 rfl (lv_at hl 3 rfl) ?_
    refine z_icmp_gt (tgt := 26) hx hb (by omega) (by omega) wdX12_fallsTo_6 (by decide) (fun c1 => ?_) (fun c1 => ?_)
    · exact kk u _ _ ls (by omega) w (lv_sub hl [1] rfl)
    · refine lv_aload_n hx hb wdX12_fallsTo_9 rfl (lv_at hl 2 rfl) ?_
      refine lv_iload_n hx hb wdX12_fallsTo_10 rfl (lv_at hl 0 rfl) ?_
      refine k_Vi F w (As := [.int (zI (u : Int))]) (rest := []) (a := 146) (kd_lt (a := 146) (show kd 146 = (12, 0, 0) from rfl) (by decide)) (sh_12 rfl _ _) rfl (k_isFall hR (t := u) (by omega)) wgv_X12_258 whv_X12_isFall ⟨(by omega), (by omega)⟩ hl.1 rfl (Nat.le_of_ble_eq_true rfl) ⟨Nat.zero_le _, Nat.zero_le _⟩ wdX12_fallsTo_11 (fun r Ma3 H locs hp w => ?_)
      rcases hp with ⟨⟨hb2, rfl⟩ | ⟨hb2, rfl⟩, hMe⟩
      · rw [hMe] at w
        refine z_if_eq (tgt := 20) hx hb (by omega) wdX12_fallsTo_14 (by decide) (fun c4 => False.elim (by omega)) (fun c4 => ?_)
        refine z_iinc (v := ((((fwS o.2.1 u).1 + 1) : Nat) : Int)) (lv' := [(2, .int (zI ((((fwS o.2.1 u).1 + 1) : Nat) : Int))), (3, .int (zI (u : Int))), (0, .ref (B + 146)), (1, .int (zI ((m9 : Int) - 1)))]) hx hb wdX12_fallsTo_17 hl (k := 1) rfl (by omega) (by decide) rfl (fun ls hl => ?_)
        refine z_iinc (v := (((u + 1) : Nat) : Int)) (lv' := [(3, .int (zI (((u + 1) : Nat) : Int))), (2, .int (zI ((((fwS o.2.1 u).1 + 1) : Nat) : Int))), (0, .ref (B + 146)), (1, .int (zI ((m9 : Int) - 1)))]) hx hb wdX12_fallsTo_20 hl (k := 1) rfl (by omega) (by decide) rfl (fun ls hl => ?_)
        refine lv_goto (tgt := 4) hx hb wdX12_fallsTo_23 (by decide) ?_
        replace hl : lv_has ls 4 [(3, .int (zI (((u + 1) : Nat) : Int))), (2, .int (zI (((fwS o.2.1 (u + 1)).1 : Nat) : Int))), (0, .ref (B + 146)), (1, .int (zI ((m9 : Int) - 1)))] := by rw [(fw_s (K := o.2.1) (u := u)).1 hb2]; exact hl
        exact ih (u + 1) (by omega) (by omega) _ _ ls w (lv_sub hl [0, 1, 2, 3] rfl)
      · rw [hMe] at w
        refine z_if_eq (tgt := 20) hx hb (by omega) wdX12_fallsTo_14 (by decide) (fun c5 => ?_) (fun c5 => False.elim (by omega))
        refine z_iinc (v := (((u + 1) : Nat) : Int)) (lv' := [(3, .int (zI (((u + 1) : Nat) : Int))), (2, .int (zI (((fwS o.2.1 u).1 : Nat) : Int))), (0, .ref (B + 146)), (1, .int (zI ((m9 : Int) - 1)))]) hx hb wdX12_fallsTo_20 hl (k := 0) rfl (by omega) (by decide) rfl (fun ls hl => ?_)
        refine lv_goto (tgt := 4) hx hb wdX12_fallsTo_23 (by decide) ?_
        replace hl : lv_has ls 4 [(3, .int (zI (((u + 1) : Nat) : Int))), (2, .int (zI (((fwS o.2.1 (u + 1)).1 : Nat) : Int))), (0, .ref (B + 146)), (1, .int (zI ((m9 : Int) - 1)))] := by rw [(fw_s (K := o.2.1) (u := u)).2 hb2]; exact hl
        exact ih (u + 1) (by omega) (by omega) _ _ ls w (lv_sub hl [0, 1, 2, 3] rfl)
theorem wdX12_fallsTo_0 : decode cX12_fallsTo 0 = .ok (.iconst 0, 1) := by decide +kernel
theorem wdX12_fallsTo_1 : decode cX12_fallsTo 1 = .ok (.istore_n 2, 1) := by decide +kernel
theorem wdX12_fallsTo_2 : decode cX12_fallsTo 2 = .ok (.iconst 0, 1) := by decide +kernel
theorem wdX12_fallsTo_3 : decode cX12_fallsTo 3 = .ok (.istore_n 3, 1) := by decide +kernel
theorem wdX12_fallsTo_26 : decode cX12_fallsTo 26 = .ok (.iload_n 2, 1) := by decide +kernel
theorem wdX12_fallsTo_27 : decode cX12_fallsTo 27 = .ok (.ireturn, 1) := by decide +kernel
set_option maxRecDepth 4000 in
theorem k_fallsTo {l : Launch} {D : va_G} {B : Nat} {cy : Nat → ClassId} {M : Mem} {q hv ed : Nat} {o : Wo} {z9 : Int} (hR : RW M q hv ed o z9) {m9 : Nat} (hm9 : m9 ≤ o.1) : Ci l D B cy yX12_fallsTo cX12_fallsTo 4 (some .int) 1 23 [.ref (B + 146), .int (zI ((m9 : Int) - 1))] M (fun r M1 => r = zI (((fwS o.2.1 m9).1 : Nat) : Int) ∧ M1 = M) := by
  refine s_any (by decide) (Nat.le_of_ble_eq_true rfl) ?_
  intro p e s m below meth c ls F hr hlocks w hl
  have F : CallFix p m c cX12_fallsTo 4 s _ TB RX12 := F
  have hx := F.1
  have hb := F.2.1
  have hl : lv_has ls 4 [(0, .ref (B + 146)), (1, .int (zI ((m9 : Int) - 1)))] := hl
  have hW := hR.1
  have hwf := hR.wf
  have hKL := hwf.2.2.2.2
  have hn12 := hwf.1
  have hq12 := hwf.2.1
  have hhv := hwf.2.2.1
  have hed := hwf.2.2.2.1
  have hc := hR.2.2.2.2
  have hfm := fw_b (K := o.2.1) m9
  refine lv_iconst (v := zI 0) hx hb wdX12_fallsTo_0 rfl ?_
  refine lv_istore_n (lv' := [(2, .int (zI 0)), (0, .ref (B + 146)), (1, .int (zI ((m9 : Int) - 1)))]) hx hb wdX12_fallsTo_1 rfl hl (by decide) rfl (fun ls hl => ?_)
  refine lv_iconst (v := zI 0) hx hb wdX12_fallsTo_2 rfl ?_
  refine lv_istore_n (lv' := [(3, .int (zI 0)), (2, .int (zI 0)), (0, .ref (B + 146)), (1, .int (zI ((m9 : Int) - 1)))]) hx hb wdX12_fallsTo_3 rfl hl (by decide) rfl (fun ls hl => ?_)
  refine lp_X12_fallsTo  F (Nat.le_of_ble_eq_true rfl) (Nat.le_of_ble_eq_true rfl) hR hm9 (fun u H locs ls x0 w hl => ?_) m9 0 (by omega) (by omega) _ _ ls w (lv_sub hl [0, 1, 2, 3] rfl)
  rw [x0] at hl
  refine lv_iload_n hx hb wdX12_fallsTo_26 rfl (lv_at hl 0 rfl) ?_
  exact e_i F w hr hlocks ⟨rfl, rfl⟩ wdX12_fallsTo_27
theorem wdX12_lines_4 : decode cX12_lines 4 = .ok (.iload_n 2, 1) := by decide +kernel
theorem wdX12_lines_5 : decode cX12_lines 5 = .ok (.aload_n 0, 1) := by decide +kernel
theorem wdX12_lines_6 : decode cX12_lines 6 = .ok (.getfield 17, 3) := by decide +kernel
theorem wdX12_lines_9 : decode cX12_lines 9 = .ok (.iconst 0, 1) := by decide +kernel
theorem wdX12_lines_10 : decode cX12_lines 10 = .ok (.iaload, 1) := by decide +kernel
theorem wdX12_lines_11 : decode cX12_lines 11 = .ok (.if_icmp .ge 24, 3) := by decide +kernel
theorem wdX12_lines_14 : decode cX12_lines 14 = .ok (.iload_n 1, 1) := by decide +kernel
theorem wdX12_lines_15 : decode cX12_lines 15 = .ok (.aload_n 0, 1) := by decide +kernel
theorem wdX12_lines_16 : decode cX12_lines 16 = .ok (.getfield 17, 3) := by decide +kernel
theorem wdX12_lines_19 : decode cX12_lines 19 = .ok (.bipush 13, 2) := by decide +kernel
theorem wdX12_lines_21 : decode cX12_lines 21 = .ok (.iload_n 2, 1) := by decide +kernel
theorem wdX12_lines_22 : decode cX12_lines 22 = .ok (.iadd, 1) := by decide +kernel
theorem wdX12_lines_23 : decode cX12_lines 23 = .ok (.iaload, 1) := by decide +kernel
theorem wdX12_lines_24 : decode cX12_lines 24 = .ok (.invokestatic 76, 3) := by decide +kernel
theorem wdX12_lines_27 : decode cX12_lines 27 = .ok (.iadd, 1) := by decide +kernel
theorem wdX12_lines_28 : decode cX12_lines 28 = .ok (.istore_n 1, 1) := by decide +kernel
theorem wdX12_lines_29 : decode cX12_lines 29 = .ok (.iinc 2 1, 3) := by decide +kernel
theorem wdX12_lines_32 : decode cX12_lines 32 = .ok (.goto (-28), 3) := by decide +kernel
set_option maxRecDepth 4000 in
theorem lp_X12_lines {p : Program} {l : Launch} {e : Env} {s : State} {m : MethodId} {args : Array Value} {below : List Frame} {meth : Method} {c : Code} {D : va_G} {B : Nat} {cy : Nat → ClassId} {H0 : Heap} {Q : State → Prop} {M : Mem} {R : Room} {q hv ed : Nat} {o : Wo} {z9 : Int} (F : CallFix p m c cX12_lines 3 s args TB RX12) (hR1 : 1 ≤ R.frames) (hR2 : 22 ≤ R.locals) (hR : RW M q hv ed o z9) (kk : ∀ (t : Nat) (H : Heap) (locs : List Loc) (ls : Array Slot), (t = o.1) → Wd D B cy s H0 M H locs → lv_has ls 3 [(1, .int (zI (((sumP (fun t => pop (o.2.2 t)) t) : Nat) : Int)))] → W p l e R s m args below meth c H locs 0 0 Q (F0 m 35 ls [])) : ∀ (f : Nat) (t : Nat), (t ≤ o.1) → (o.1 ≤ t + f) → ∀ (H : Heap) (locs : List Loc) (ls : Array Slot), Wd D B cy s H0 M H locs → lv_has ls 3 [(2, .int (zI (t : Int))), (1, .int (zI (((sumP (fun t => pop (o.2.2 t)) t) : Nat) : Int))), (0, .ref (B + 146))] → W p l e R s m args below meth c H locs 0 0 Q (F0 m 4 ls []) := by
  have hx := F.1
  have hb := F.2.1
  have hW := hR.1
  have hwf := hR.wf
  have hKL := hwf.2.2.2.2
  have hn12 := hwf.1
  have hq12 := hwf.2.1
  have hhv := hwf.2.2.1
  have hed := hwf.2.2.2.1
  have hc := hR.2.2.2.2
  intro f
  induction f with
  | zero =>
    intro t i0 hf H locs ls w hl
    have hsp : sumP (fun t => pop (o.2.2 t)) t ≤ 12 * t := sumP_le (F := (fun t => pop (o.2.2 t))) (b := 12) (n := t) (fun k hk9 => (pop_le _ (hKL k (by omega)).2).1)
    refine lv_iload_n hx hb wdX12_lines_4 rfl (lv_at hl 0 rfl) ?_
    refine lv_aload_n hx hb wdX12_lines_5 rfl (lv_at hl 2 rfl) ?_
    refine f_12_2 F w (a := 146) rfl wtb_102 wdX12_lines_6 ?_
    refine lv_iconst (v := zI 0) hx hb wdX12_lines_9 rfl ?_
    refine g_iald F w (a := 148) rfl (j := 0) ⟨by decide, by decide⟩ (by omega) wdX12_lines_10 ?_
    refine r_val (v := (zI ((o.1 : Nat) : Int))) (hW.1) ?_
    refine z_icmp_ge (tgt := 35) hx hb (by omega) (by omega) wdX12_lines_11 (by decide) (fun c1 => ?_) (fun c1 => False.elim (by omega))
    exact kk t _ _ ls (by omega) w (lv_sub hl [1] rfl)
  | succ f ih =>
    intro t i0 hf H locs ls w hl
    have hsp : sumP (fun t => pop (o.2.2 t)) t ≤ 12 * t := sumP_le (F := (fun t => pop (o.2.2 t))) (b := 12) (n := t) (fun k hk9 => (pop_le _ (hKL k (by omega)).2).1)
    refine lv_iload_n hx hb wdX12_lines_4 rfl (lv_at hl 0 rfl) ?_
    refine lv_aload_n hx hb wdX12_lines_5 rfl (lv_at hl 2 rfl) ?_
    refine f_12_2 F w (a := 146) rfl wtb_102 wdX12_lines_6 ?_
    refine lv_iconst (v := zI 0) hx hb wdX12_lines_9 rfl ?_
    refine g_iald F w (a := 148) rfl (j := 0) ⟨by decide, by decide⟩ (by omega) wdX12_lines_10 ?_
    refine r_val (v := (zI ((o.1 : Nat) : Int))) (hW.1) ?_
    refine z_icmp_ge (tgt := 35) hx hb (by omega) (by omega) wdX12_lines_11 (by decide) (fun c1 => ?_) (fun c1 => ?_)
    · exact kk t _ _ ls (by omega) w (lv_sub hl [1] rfl)
    · refine lv_iload_n hx hb wdX12_lines_14 rfl (lv_at hl 1 rfl) ?_
      refine lv_aload_n hx hb wdX12_lines_15 rfl (lv_at hl 2 rfl) ?_
      refine f_12_2 F w (a := 146) rfl wtb_102 wdX12_lines_16 ?_
      refine lv_bipush (v := zI 13) hx hb wdX12_lines_19 (by decide) ?_
      refine lv_iload_n hx hb wdX12_lines_21 rfl (lv_at hl 0 rfl) ?_
      refine z_iadd (z := (((13 + t) : Nat) : Int)) hx hb wdX12_lines_22 (by omega) ?_
      refine g_iald F w (a := 148) rfl (j := (13 + t)) (ix_n (by omega)) (by omega) wdX12_lines_23 ?_
      have hL1 := (hKL t (by omega)).2
      refine r_val (v := (zI (((o.2.2 t) : Nat) : Int))) (hW.2.2.2.2.2 t (by omega)) ?_
      refine x_Si F w (As := [.int (zI (((o.2.2 t) : Nat) : Int))]) (rest := [.int (zI (((sumP (fun t => pop (o.2.2 t)) t) : Nat) : Int))]) (s_X12_bitsOf (m9 := (o.2.2 t)) (by omega)) wgs_X12_76 whs_X12_bitsOf ⟨(by omega), (by omega)⟩ hl.1 rfl (Nat.le_of_ble_eq_true rfl) ⟨Nat.zero_le _, Nat.zero_le _⟩ wdX12_lines_24 (fun H locs w => ?_)
      have hp1 := (pop_le (o.2.2 t) (by omega)).1
      refine z_iadd (z := ((((sumP (fun t => pop (o.2.2 t)) t) + (pop (o.2.2 t))) : Nat) : Int)) hx hb wdX12_lines_27 (by omega) ?_
      refine r_val (v := (zI (((sumP (fun t => pop (o.2.2 t)) (t + 1)) : Nat) : Int))) rfl ?_
      refine lv_istore_n (lv' := [(1, .int (zI (((sumP (fun t => pop (o.2.2 t)) (t + 1)) : Nat) : Int))), (2, .int (zI (t : Int))), (0, .ref (B + 146))]) hx hb wdX12_lines_28 rfl hl (by decide) rfl (fun ls hl => ?_)
      refine z_iinc (v := (((t + 1) : Nat) : Int)) (lv' := [(2, .int (zI (((t + 1) : Nat) : Int))), (1, .int (zI (((sumP (fun t => pop (o.2.2 t)) (t + 1)) : Nat) : Int))), (0, .ref (B + 146))]) hx hb wdX12_lines_29 hl (k := 1) rfl (by omega) (by decide) rfl (fun ls hl => ?_)
      refine lv_goto (tgt := 4) hx hb wdX12_lines_32 (by decide) ?_
      exact ih (t + 1) (by omega) (by omega) _ _ ls w (lv_sub hl [0, 1, 2] rfl)
theorem wdX12_lines_0 : decode cX12_lines 0 = .ok (.iconst 0, 1) := by decide +kernel
theorem wdX12_lines_1 : decode cX12_lines 1 = .ok (.istore_n 1, 1) := by decide +kernel
theorem wdX12_lines_2 : decode cX12_lines 2 = .ok (.iconst 0, 1) := by decide +kernel
theorem wdX12_lines_3 : decode cX12_lines 3 = .ok (.istore_n 2, 1) := by decide +kernel
theorem wdX12_lines_35 : decode cX12_lines 35 = .ok (.iload_n 1, 1) := by decide +kernel
theorem wdX12_lines_36 : decode cX12_lines 36 = .ok (.ireturn, 1) := by decide +kernel
set_option maxRecDepth 4000 in
theorem k_lines {l : Launch} {D : va_G} {B : Nat} {cy : Nat → ClassId} {M : Mem} {q hv ed : Nat} {o : Wo} {z9 : Int} (hR : RW M q hv ed o z9) : Ci l D B cy yX12_lines cX12_lines 3 (some .int) 1 22 [.ref (B + 146)] M (fun r M1 => r = zI ((sumP (fun t => pop (o.2.2 t)) o.1 : Nat) : Int) ∧ M1 = M) := by
  refine s_any (by decide) (Nat.le_of_ble_eq_true rfl) ?_
  intro p e s m below meth c ls F hr hlocks w hl
  have F : CallFix p m c cX12_lines 3 s _ TB RX12 := F
  have hx := F.1
  have hb := F.2.1
  have hl : lv_has ls 3 [(0, .ref (B + 146))] := hl
  have hW := hR.1
  have hwf := hR.wf
  have hKL := hwf.2.2.2.2
  have hn12 := hwf.1
  have hq12 := hwf.2.1
  have hhv := hwf.2.2.1
  have hed := hwf.2.2.2.1
  have hc := hR.2.2.2.2
  have hsp : sumP (fun t => pop (o.2.2 t)) o.1 ≤ 12 * o.1 := sumP_le (F := (fun t => pop (o.2.2 t))) (b := 12) (n := o.1) (fun k hk9 => (pop_le _ (hKL k (by omega)).2).1)
  refine lv_iconst (v := zI 0) hx hb wdX12_lines_0 rfl ?_
  refine lv_istore_n (lv' := [(1, .int (zI 0)), (0, .ref (B + 146))]) hx hb wdX12_lines_1 rfl hl (by decide) rfl (fun ls hl => ?_)
  refine lv_iconst (v := zI 0) hx hb wdX12_lines_2 rfl ?_
  refine lv_istore_n (lv' := [(2, .int (zI 0)), (1, .int (zI 0)), (0, .ref (B + 146))]) hx hb wdX12_lines_3 rfl hl (by decide) rfl (fun ls hl => ?_)
  refine lp_X12_lines  F (Nat.le_of_ble_eq_true rfl) (Nat.le_of_ble_eq_true rfl) hR (fun t H locs ls x0 w hl => ?_) o.1 0 (by omega) (by omega) _ _ ls w (lv_sub hl [0, 1, 2] rfl)
  rw [x0] at hl
  refine lv_iload_n hx hb wdX12_lines_35 rfl (lv_at hl 0 rfl) ?_
  exact e_i F w hr hlocks ⟨rfl, rfl⟩ wdX12_lines_36
theorem wdX12_floating_4 : decode cX12_floating 4 = .ok (.iload_n 2, 1) := by decide +kernel
theorem wdX12_floating_5 : decode cX12_floating 5 = .ok (.aload_n 0, 1) := by decide +kernel
theorem wdX12_floating_6 : decode cX12_floating 6 = .ok (.getfield 17, 3) := by decide +kernel
theorem wdX12_floating_9 : decode cX12_floating 9 = .ok (.iconst 0, 1) := by decide +kernel
theorem wdX12_floating_10 : decode cX12_floating 10 = .ok (.iaload, 1) := by decide +kernel
theorem wdX12_floating_11 : decode cX12_floating 11 = .ok (.if_icmp .ge 27, 3) := by decide +kernel
theorem wdX12_floating_14 : decode cX12_floating 14 = .ok (.aload_n 0, 1) := by decide +kernel
theorem wdX12_floating_15 : decode cX12_floating 15 = .ok (.getfield 17, 3) := by decide +kernel
theorem wdX12_floating_18 : decode cX12_floating 18 = .ok (.bipush 13, 2) := by decide +kernel
theorem wdX12_floating_20 : decode cX12_floating 20 = .ok (.iload_n 2, 1) := by decide +kernel
theorem wdX12_floating_21 : decode cX12_floating 21 = .ok (.iadd, 1) := by decide +kernel
theorem wdX12_floating_22 : decode cX12_floating 22 = .ok (.iaload, 1) := by decide +kernel
theorem wdX12_floating_23 : decode cX12_floating 23 = .ok (.ifCond .ne 9, 3) := by decide +kernel
theorem wdX12_floating_32 : decode cX12_floating 32 = .ok (.iinc 2 1, 3) := by decide +kernel
theorem wdX12_floating_35 : decode cX12_floating 35 = .ok (.goto (-31), 3) := by decide +kernel
theorem wdX12_floating_26 : decode cX12_floating 26 = .ok (.iload_n 1, 1) := by decide +kernel
theorem wdX12_floating_27 : decode cX12_floating 27 = .ok (.iconst 1, 1) := by decide +kernel
theorem wdX12_floating_28 : decode cX12_floating 28 = .ok (.iload_n 2, 1) := by decide +kernel
theorem wdX12_floating_29 : decode cX12_floating 29 = .ok (.ishl, 1) := by decide +kernel
theorem wdX12_floating_30 : decode cX12_floating 30 = .ok (.ior, 1) := by decide +kernel
theorem wdX12_floating_31 : decode cX12_floating 31 = .ok (.istore_n 1, 1) := by decide +kernel
set_option maxRecDepth 4000 in
theorem lp_X12_floating {p : Program} {l : Launch} {e : Env} {s : State} {m : MethodId} {args : Array Value} {below : List Frame} {meth : Method} {c : Code} {D : va_G} {B : Nat} {cy : Nat → ClassId} {H0 : Heap} {Q : State → Prop} {M : Mem} {R : Room} {q hv ed : Nat} {o : Wo} {z9 : Int} (F : CallFix p m c cX12_floating 3 s args TB RX12) (hR1 : 0 ≤ R.frames) (hR2 : 0 ≤ R.locals) (hR : RW M q hv ed o z9) (kk : ∀ (t : Nat) (H : Heap) (locs : List Loc) (ls : Array Slot), (t = o.1) → Wd D B cy s H0 M H locs → lv_has ls 3 [(1, .int (zI (((flt o.2.2 t) : Nat) : Int)))] → W p l e R s m args below meth c H locs 0 0 Q (F0 m 38 ls [])) : ∀ (f : Nat) (t : Nat), (t ≤ o.1) → (o.1 ≤ t + f) → ∀ (H : Heap) (locs : List Loc) (ls : Array Slot), Wd D B cy s H0 M H locs → lv_has ls 3 [(2, .int (zI (t : Int))), (1, .int (zI (((flt o.2.2 t) : Nat) : Int))), (0, .ref (B + 146))] → W p l e R s m args below meth c H locs 0 0 Q (F0 m 4 ls []) := by
  have hx := F.1
  have hb := F.2.1
  have hW := hR.1
  have hwf := hR.wf
  have hKL := hwf.2.2.2.2
  have hn12 := hwf.1
  have hq12 := hwf.2.1
  have hhv := hwf.2.2.1
  have hed := hwf.2.2.2.1
  have hc := hR.2.2.2.2
  intro f
  induction f with
  | zero =>
    intro t i0 hf H locs ls w hl
    have hfl := flt_lt (L := o.2.2) (n := t) (by omega)
    refine lv_iload_n hx hb wdX12_floating_4 rfl (lv_at hl 0 rfl) ?_
    refine lv_aload_n hx hb wdX12_floating_5 rfl (lv_at hl 2 rfl) ?_
    refine f_12_2 F w (a := 146) rfl wtb_102 wdX12_floating_6 ?_
    refine lv_iconst (v := zI 0) hx hb wdX12_floating_9 rfl ?_
    refine g_iald F w (a := 148) rfl (j := 0) ⟨by decide, by decide⟩ (by omega) wdX12_floating_10 ?_
    refine r_val (v := (zI ((o.1 : Nat) : Int))) (hW.1) ?_
    refine z_icmp_ge (tgt := 38) hx hb (by omega) (by omega) wdX12_floating_11 (by decide) (fun c1 => ?_) (fun c1 => False.elim (by omega))
    exact kk t _ _ ls (by omega) w (lv_sub hl [1] rfl)
  | succ f ih =>
    intro t i0 hf H locs ls w hl
    have hfl := flt_lt (L := o.2.2) (n := t) (by omega)
    refine lv_iload_n hx hb wdX12_floating_4 rfl (lv_at hl 0 rfl) ?_
    refine lv_aload_n hx hb wdX12_floating_5 rfl (lv_at hl 2 rfl) ?_
    refine f_12_2 F w (a := 146) rfl wtb_102 wdX12_floating_6 ?_
    refine lv_iconst (v := zI 0) hx hb wdX12_floating_9 rfl ?_
    refine g_iald F w (a := 148) rfl (j := 0) ⟨by decide, by decide⟩ (by omega) wdX12_floating_10 ?_
    refine r_val (v := (zI ((o.1 : Nat) : Int))) (hW.1) ?_
    refine z_icmp_ge (tgt := 38) hx hb (by omega) (by omega) wdX12_floating_11 (by decide) (fun c1 => ?_) (fun c1 => ?_)
    · exact kk t _ _ ls (by omega) w (lv_sub hl [1] rfl)
    · refine lv_aload_n hx hb wdX12_floating_14 rfl (lv_at hl 2 rfl) ?_
      refine f_12_2 F w (a := 146) rfl wtb_102 wdX12_floating_15 ?_
      refine lv_bipush (v := zI 13) hx hb wdX12_floating_18 (by decide) ?_
      refine lv_iload_n hx hb wdX12_floating_20 rfl (lv_at hl 0 rfl) ?_
      refine z_iadd (z := (((13 + t) : Nat) : Int)) hx hb wdX12_floating_21 (by omega) ?_
      refine g_iald F w (a := 148) rfl (j := (13 + t)) (ix_n (by omega)) (by omega) wdX12_floating_22 ?_
      have hL1 := (hKL t (by omega)).2
      refine r_val (v := (zI (((o.2.2 t) : Nat) : Int))) (hW.2.2.2.2.2 t (by omega)) ?_
      refine z_if_ne (tgt := 32) hx hb (by omega) wdX12_floating_23 (by decide) (fun c2 => ?_) (fun c2 => ?_)
      · refine z_iinc (v := (((t + 1) : Nat) : Int)) (lv' := [(2, .int (zI (((t + 1) : Nat) : Int))), (1, .int (zI (((flt o.2.2 t) : Nat) : Int))), (0, .ref (B + 146))]) hx hb wdX12_floating_32 hl (k := 0) rfl (by omega) (by decide) rfl (fun ls hl => ?_)
        refine lv_goto (tgt := 4) hx hb wdX12_floating_35 (by decide) ?_
        replace hl : lv_has ls 3 [(2, .int (zI (((t + 1) : Nat) : Int))), (1, .int (zI (((flt o.2.2 (t + 1)) : Nat) : Int))), (0, .ref (B + 146))] := by rw [← flt_0 (by omega)]; exact hl
        exact ih (t + 1) (by omega) (by omega) _ _ ls w (lv_sub hl [0, 1, 2] rfl)
      · refine lv_iload_n hx hb wdX12_floating_26 rfl (lv_at hl 1 rfl) ?_
        refine lv_iconst (v := zI 1) hx hb wdX12_floating_27 rfl ?_
        refine lv_iload_n hx hb wdX12_floating_28 rfl (lv_at hl 0 rfl) ?_
        refine lv_ishl hx hb wdX12_floating_29 ?_
        refine r_val (v := (zI (((2 ^ t) : Nat) : Int))) (zb_shl (n := t) (by omega)) ?_
        have q3 := p2_b (n := t) (by omega)
        refine lv_ior hx hb wdX12_floating_30 ?_
        refine r_val (v := (zI ((((flt o.2.2 t) ||| (2 ^ t)) : Nat) : Int))) (zb_or (flt o.2.2 t) (2 ^ t)) ?_
        have q4 := or_lt12 (a := (flt o.2.2 t)) (b := (2 ^ t)) (by omega) (by omega)
        refine lv_istore_n (lv' := [(1, .int (zI ((((flt o.2.2 t) ||| (2 ^ t)) : Nat) : Int))), (2, .int (zI (t : Int))), (0, .ref (B + 146))]) hx hb wdX12_floating_31 rfl hl (by decide) rfl (fun ls hl => ?_)
        refine z_iinc (v := (((t + 1) : Nat) : Int)) (lv' := [(2, .int (zI (((t + 1) : Nat) : Int))), (1, .int (zI ((((flt o.2.2 t) ||| (2 ^ t)) : Nat) : Int))), (0, .ref (B + 146))]) hx hb wdX12_floating_32 hl (k := 1) rfl (by omega) (by decide) rfl (fun ls hl => ?_)
        refine lv_goto (tgt := 4) hx hb wdX12_floating_35 (by decide) ?_
        replace hl : lv_has ls 3 [(2, .int (zI (((t + 1) : Nat) : Int))), (1, .int (zI (((flt o.2.2 (t + 1)) : Nat) : Int))), (0, .ref (B + 146))] := by rw [← flt_1 (by omega)]; exact hl
        exact ih (t + 1) (by omega) (by omega) _ _ ls w (lv_sub hl [0, 1, 2] rfl)
theorem wdX12_floating_0 : decode cX12_floating 0 = .ok (.iconst 0, 1) := by decide +kernel
theorem wdX12_floating_1 : decode cX12_floating 1 = .ok (.istore_n 1, 1) := by decide +kernel
theorem wdX12_floating_2 : decode cX12_floating 2 = .ok (.iconst 0, 1) := by decide +kernel
theorem wdX12_floating_3 : decode cX12_floating 3 = .ok (.istore_n 2, 1) := by decide +kernel
theorem wdX12_floating_38 : decode cX12_floating 38 = .ok (.iload_n 1, 1) := by decide +kernel
theorem wdX12_floating_39 : decode cX12_floating 39 = .ok (.ireturn, 1) := by decide +kernel
set_option maxRecDepth 4000 in
theorem k_floating {l : Launch} {D : va_G} {B : Nat} {cy : Nat → ClassId} {M : Mem} {q hv ed : Nat} {o : Wo} {z9 : Int} (hR : RW M q hv ed o z9) : Ci l D B cy yX12_floating cX12_floating 3 (some .int) 0 0 [.ref (B + 146)] M (fun r M1 => r = zI ((flt o.2.2 o.1 : Nat) : Int) ∧ M1 = M) := by
  refine s_any (by decide) (Nat.le_of_ble_eq_true rfl) ?_
  intro p e s m below meth c ls F hr hlocks w hl
  have F : CallFix p m c cX12_floating 3 s _ TB RX12 := F
  have hx := F.1
  have hb := F.2.1
  have hl : lv_has ls 3 [(0, .ref (B + 146))] := hl
  have hW := hR.1
  have hwf := hR.wf
  have hKL := hwf.2.2.2.2
  have hn12 := hwf.1
  have hq12 := hwf.2.1
  have hhv := hwf.2.2.1
  have hed := hwf.2.2.2.1
  have hc := hR.2.2.2.2
  have hfl := flt_lt (L := o.2.2) (n := o.1) (by omega)
  refine lv_iconst (v := zI 0) hx hb wdX12_floating_0 rfl ?_
  refine lv_istore_n (lv' := [(1, .int (zI 0)), (0, .ref (B + 146))]) hx hb wdX12_floating_1 rfl hl (by decide) rfl (fun ls hl => ?_)
  refine lv_iconst (v := zI 0) hx hb wdX12_floating_2 rfl ?_
  refine lv_istore_n (lv' := [(2, .int (zI 0)), (1, .int (zI 0)), (0, .ref (B + 146))]) hx hb wdX12_floating_3 rfl hl (by decide) rfl (fun ls hl => ?_)
  refine lp_X12_floating  F (Nat.le_of_ble_eq_true rfl) (Nat.le_of_ble_eq_true rfl) hR (fun t H locs ls x0 w hl => ?_) o.1 0 (by omega) (by omega) _ _ ls w (lv_sub hl [0, 1, 2] rfl)
  rw [x0] at hl
  refine lv_iload_n hx hb wdX12_floating_38 rfl (lv_at hl 0 rfl) ?_
  exact e_i F w hr hlocks ⟨rfl, rfl⟩ wdX12_floating_39
theorem wdX12_bare_4 : decode cX12_bare 4 = .ok (.iload_n 2, 1) := by decide +kernel
theorem wdX12_bare_5 : decode cX12_bare 5 = .ok (.aload_n 0, 1) := by decide +kernel
theorem wdX12_bare_6 : decode cX12_bare 6 = .ok (.getfield 17, 3) := by decide +kernel
theorem wdX12_bare_9 : decode cX12_bare 9 = .ok (.bipush 25, 2) := by decide +kernel
theorem wdX12_bare_11 : decode cX12_bare 11 = .ok (.iaload, 1) := by decide +kernel
theorem wdX12_bare_12 : decode cX12_bare 12 = .ok (.if_icmp .ge 23, 3) := by decide +kernel
theorem wdX12_bare_15 : decode cX12_bare 15 = .ok (.aload_n 0, 1) := by decide +kernel
theorem wdX12_bare_16 : decode cX12_bare 16 = .ok (.iload_n 2, 1) := by decide +kernel
theorem wdX12_bare_17 : decode cX12_bare 17 = .ok (.invokevirtual 82, 3) := by decide +kernel
theorem wdX12_bare_20 : decode cX12_bare 20 = .ok (.ifCond .eq 9, 3) := by decide +kernel
theorem wdX12_bare_23 : decode cX12_bare 23 = .ok (.iload_n 1, 1) := by decide +kernel
theorem wdX12_bare_24 : decode cX12_bare 24 = .ok (.iconst 1, 1) := by decide +kernel
theorem wdX12_bare_25 : decode cX12_bare 25 = .ok (.iload_n 2, 1) := by decide +kernel
theorem wdX12_bare_26 : decode cX12_bare 26 = .ok (.ishl, 1) := by decide +kernel
theorem wdX12_bare_27 : decode cX12_bare 27 = .ok (.ior, 1) := by decide +kernel
theorem wdX12_bare_28 : decode cX12_bare 28 = .ok (.istore_n 1, 1) := by decide +kernel
theorem wdX12_bare_29 : decode cX12_bare 29 = .ok (.iinc 2 1, 3) := by decide +kernel
theorem wdX12_bare_32 : decode cX12_bare 32 = .ok (.goto (-28), 3) := by decide +kernel
set_option maxRecDepth 4000 in
theorem lp_X12_bare {p : Program} {l : Launch} {e : Env} {s : State} {m : MethodId} {args : Array Value} {below : List Frame} {meth : Method} {c : Code} {D : va_G} {B : Nat} {cy : Nat → ClassId} {H0 : Heap} {Q : State → Prop} {M : Mem} {R : Room} {q hv ed : Nat} {o : Wo} {z9 : Int} (F : CallFix p m c cX12_bare 3 s args TB RX12) (hR1 : 3 ≤ R.frames) (hR2 : 65 ≤ R.locals) (hR : RW M q hv ed o z9) (kk : ∀ (t : Nat) (H : Heap) (locs : List Loc) (ls : Array Slot), (t = q) → Wd D B cy s H0 M H locs → lv_has ls 3 [(1, .int (zI (((brF o.1 o.2.2 t) : Nat) : Int)))] → W p l e R s m args below meth c H locs 0 0 Q (F0 m 35 ls [])) : ∀ (f : Nat) (t : Nat), (t ≤ q) → (q ≤ t + f) → ∀ (H : Heap) (locs : List Loc) (ls : Array Slot), Wd D B cy s H0 M H locs → lv_has ls 3 [(2, .int (zI (t : Int))), (1, .int (zI (((brF o.1 o.2.2 t) : Nat) : Int))), (0, .ref (B + 146))] → W p l e R s m args below meth c H locs 0 0 Q (F0 m 4 ls []) := by
  have hx := F.1
  have hb := F.2.1
  have hW := hR.1
  have hwf := hR.wf
  have hKL := hwf.2.2.2.2
  have hn12 := hwf.1
  have hq12 := hwf.2.1
  have hhv := hwf.2.2.1
  have hed := hwf.2.2.2.1
  have hc := hR.2.2.2.2
  intro f
  induction f with
  | zero =>
    intro t i0 hf H locs ls w hl
    have hbr := br_le (n := o.1) (L := o.2.2) (s := t) (by omega)
    refine lv_iload_n hx hb wdX12_bare_4 rfl (lv_at hl 0 rfl) ?_
    refine lv_aload_n hx hb wdX12_bare_5 rfl (lv_at hl 2 rfl) ?_
    refine f_12_2 F w (a := 146) rfl wtb_102 wdX12_bare_6 ?_
    refine lv_bipush (v := zI 25) hx hb wdX12_bare_9 (by decide) ?_
    refine g_iald F w (a := 148) rfl (j := 25) ⟨by decide, by decide⟩ (by omega) wdX12_bare_11 ?_
    refine r_val (v := (zI (q : Int))) (hW.2.1) ?_
    refine z_icmp_ge (tgt := 35) hx hb (by omega) (by omega) wdX12_bare_12 (by decide) (fun c1 => ?_) (fun c1 => False.elim (by omega))
    exact kk t _ _ ls (by omega) w (lv_sub hl [1] rfl)
  | succ f ih =>
    intro t i0 hf H locs ls w hl
    have hbr := br_le (n := o.1) (L := o.2.2) (s := t) (by omega)
    refine lv_iload_n hx hb wdX12_bare_4 rfl (lv_at hl 0 rfl) ?_
    refine lv_aload_n hx hb wdX12_bare_5 rfl (lv_at hl 2 rfl) ?_
    refine f_12_2 F w (a := 146) rfl wtb_102 wdX12_bare_6 ?_
    refine lv_bipush (v := zI 25) hx hb wdX12_bare_9 (by decide) ?_
    refine g_iald F w (a := 148) rfl (j := 25) ⟨by decide, by decide⟩ (by omega) wdX12_bare_11 ?_
    refine r_val (v := (zI (q : Int))) (hW.2.1) ?_
    refine z_icmp_ge (tgt := 35) hx hb (by omega) (by omega) wdX12_bare_12 (by decide) (fun c1 => ?_) (fun c1 => ?_)
    · exact kk t _ _ ls (by omega) w (lv_sub hl [1] rfl)
    · refine lv_aload_n hx hb wdX12_bare_15 rfl (lv_at hl 2 rfl) ?_
      refine lv_iload_n hx hb wdX12_bare_16 rfl (lv_at hl 0 rfl) ?_
      refine k_Vi F w (As := [.int (zI (t : Int))]) (rest := []) (a := 146) (kd_lt (a := 146) (show kd 146 = (12, 0, 0) from rfl) (by decide)) (sh_12 rfl _ _) rfl (s_X12_isBare hW hwf hc (j := t) (by omega)) wgv_X12_82 whv_X12_isBare ⟨(by omega), (by omega)⟩ hl.1 rfl (Nat.le_of_ble_eq_true rfl) ⟨Nat.zero_le _, Nat.zero_le _⟩ wdX12_bare_17 (fun r Ma3 H locs hp w => ?_)
      rcases hp with ⟨⟨hb2, rfl⟩ | ⟨hb2, rfl⟩, hMe⟩
      · rw [hMe] at w
        refine z_if_eq (tgt := 29) hx hb (by omega) wdX12_bare_20 (by decide) (fun c4 => False.elim (by omega)) (fun c4 => ?_)
        refine lv_iload_n hx hb wdX12_bare_23 rfl (lv_at hl 1 rfl) ?_
        refine lv_iconst (v := zI 1) hx hb wdX12_bare_24 rfl ?_
        refine lv_iload_n hx hb wdX12_bare_25 rfl (lv_at hl 0 rfl) ?_
        refine lv_ishl hx hb wdX12_bare_26 ?_
        refine r_val (v := (zI (((2 ^ t) : Nat) : Int))) (zb_shl (n := t) (by omega)) ?_
        have q5 := p2_b (n := t) (by omega)
        refine lv_ior hx hb wdX12_bare_27 ?_
        refine r_val (v := (zI ((((brF o.1 o.2.2 t) ||| (2 ^ t)) : Nat) : Int))) (zb_or (brF o.1 o.2.2 t) (2 ^ t)) ?_
        have q6 := or_lt12 (a := (brF o.1 o.2.2 t)) (b := (2 ^ t)) (by omega) (by omega)
        refine lv_istore_n (lv' := [(1, .int (zI ((((brF o.1 o.2.2 t) ||| (2 ^ t)) : Nat) : Int))), (2, .int (zI (t : Int))), (0, .ref (B + 146))]) hx hb wdX12_bare_28 rfl hl (by decide) rfl (fun ls hl => ?_)
        refine z_iinc (v := (((t + 1) : Nat) : Int)) (lv' := [(2, .int (zI (((t + 1) : Nat) : Int))), (1, .int (zI ((((brF o.1 o.2.2 t) ||| (2 ^ t)) : Nat) : Int))), (0, .ref (B + 146))]) hx hb wdX12_bare_29 hl (k := 1) rfl (by omega) (by decide) rfl (fun ls hl => ?_)
        refine lv_goto (tgt := 4) hx hb wdX12_bare_32 (by decide) ?_
        replace hl : lv_has ls 3 [(2, .int (zI (((t + 1) : Nat) : Int))), (1, .int (zI (((brF o.1 o.2.2 (t + 1)) : Nat) : Int))), (0, .ref (B + 146))] := by rw [br_y hb2]; exact hl
        exact ih (t + 1) (by omega) (by omega) _ _ ls w (lv_sub hl [0, 1, 2] rfl)
      · rw [hMe] at w
        refine z_if_eq (tgt := 29) hx hb (by omega) wdX12_bare_20 (by decide) (fun c7 => ?_) (fun c7 => False.elim (by omega))
        refine z_iinc (v := (((t + 1) : Nat) : Int)) (lv' := [(2, .int (zI (((t + 1) : Nat) : Int))), (1, .int (zI (((brF o.1 o.2.2 t) : Nat) : Int))), (0, .ref (B + 146))]) hx hb wdX12_bare_29 hl (k := 0) rfl (by omega) (by decide) rfl (fun ls hl => ?_)
        refine lv_goto (tgt := 4) hx hb wdX12_bare_32 (by decide) ?_
        replace hl : lv_has ls 3 [(2, .int (zI (((t + 1) : Nat) : Int))), (1, .int (zI (((brF o.1 o.2.2 (t + 1)) : Nat) : Int))), (0, .ref (B + 146))] := by rw [br_n hb2]; exact hl
        exact ih (t + 1) (by omega) (by omega) _ _ ls w (lv_sub hl [0, 1, 2] rfl)
theorem wdX12_bare_0 : decode cX12_bare 0 = .ok (.iconst 0, 1) := by decide +kernel
theorem wdX12_bare_1 : decode cX12_bare 1 = .ok (.istore_n 1, 1) := by decide +kernel
theorem wdX12_bare_2 : decode cX12_bare 2 = .ok (.iconst 0, 1) := by decide +kernel
theorem wdX12_bare_3 : decode cX12_bare 3 = .ok (.istore_n 2, 1) := by decide +kernel
theorem wdX12_bare_35 : decode cX12_bare 35 = .ok (.iload_n 1, 1) := by decide +kernel
theorem wdX12_bare_36 : decode cX12_bare 36 = .ok (.ireturn, 1) := by decide +kernel
set_option maxRecDepth 4000 in
theorem k_bare {l : Launch} {D : va_G} {B : Nat} {cy : Nat → ClassId} {M : Mem} {q hv ed : Nat} {o : Wo} {z9 : Int} (hR : RW M q hv ed o z9) : Ci l D B cy yX12_bare cX12_bare 3 (some .int) 3 65 [.ref (B + 146)] M (fun r M1 => r = zI ((brF o.1 o.2.2 q : Nat) : Int) ∧ M1 = M) := by
  refine s_any (by decide) (Nat.le_of_ble_eq_true rfl) ?_
  intro p e s m below meth c ls F hr hlocks w hl
  have F : CallFix p m c cX12_bare 3 s _ TB RX12 := F
  have hx := F.1
  have hb := F.2.1
  have hl : lv_has ls 3 [(0, .ref (B + 146))] := hl
  have hW := hR.1
  have hwf := hR.wf
  have hKL := hwf.2.2.2.2
  have hn12 := hwf.1
  have hq12 := hwf.2.1
  have hhv := hwf.2.2.1
  have hed := hwf.2.2.2.1
  have hc := hR.2.2.2.2
  have hbr := br_le (n := o.1) (L := o.2.2) (s := q) (by omega)
  refine lv_iconst (v := zI 0) hx hb wdX12_bare_0 rfl ?_
  refine lv_istore_n (lv' := [(1, .int (zI 0)), (0, .ref (B + 146))]) hx hb wdX12_bare_1 rfl hl (by decide) rfl (fun ls hl => ?_)
  refine lv_iconst (v := zI 0) hx hb wdX12_bare_2 rfl ?_
  refine lv_istore_n (lv' := [(2, .int (zI 0)), (1, .int (zI 0)), (0, .ref (B + 146))]) hx hb wdX12_bare_3 rfl hl (by decide) rfl (fun ls hl => ?_)
  refine lp_X12_bare  F (Nat.le_of_ble_eq_true rfl) (Nat.le_of_ble_eq_true rfl) hR (fun t H locs ls x0 w hl => ?_) q 0 (by omega) (by omega) _ _ ls w (lv_sub hl [0, 1, 2] rfl)
  rw [x0] at hl
  refine lv_iload_n hx hb wdX12_bare_35 rfl (lv_at hl 0 rfl) ?_
  exact e_i F w hr hlocks ⟨rfl, rfl⟩ wdX12_bare_36
theorem wdX12_mostTones_4 : decode cX12_mostTones 4 = .ok (.iload_n 2, 1) := by decide +kernel
theorem wdX12_mostTones_5 : decode cX12_mostTones 5 = .ok (.aload_n 0, 1) := by decide +kernel
theorem wdX12_mostTones_6 : decode cX12_mostTones 6 = .ok (.getfield 17, 3) := by decide +kernel
theorem wdX12_mostTones_9 : decode cX12_mostTones 9 = .ok (.bipush 25, 2) := by decide +kernel
theorem wdX12_mostTones_11 : decode cX12_mostTones 11 = .ok (.iaload, 1) := by decide +kernel
theorem wdX12_mostTones_12 : decode cX12_mostTones 12 = .ok (.if_icmp .ge 36, 3) := by decide +kernel
theorem wdX12_mostTones_15 : decode cX12_mostTones 15 = .ok (.aload_n 0, 1) := by decide +kernel
theorem wdX12_mostTones_16 : decode cX12_mostTones 16 = .ok (.getfield 17, 3) := by decide +kernel
theorem wdX12_mostTones_19 : decode cX12_mostTones 19 = .ok (.iload_n 2, 1) := by decide +kernel
theorem wdX12_mostTones_20 : decode cX12_mostTones 20 = .ok (.invokestatic 69, 3) := by decide +kernel
theorem wdX12_mostTones_23 : decode cX12_mostTones 23 = .ok (.invokestatic 76, 3) := by decide +kernel
theorem wdX12_mostTones_26 : decode cX12_mostTones 26 = .ok (.iload_n 1, 1) := by decide +kernel
theorem wdX12_mostTones_27 : decode cX12_mostTones 27 = .ok (.if_icmp .le 15, 3) := by decide +kernel
theorem wdX12_mostTones_42 : decode cX12_mostTones 42 = .ok (.iinc 2 1, 3) := by decide +kernel
theorem wdX12_mostTones_45 : decode cX12_mostTones 45 = .ok (.goto (-41), 3) := by decide +kernel
theorem wdX12_mostTones_30 : decode cX12_mostTones 30 = .ok (.aload_n 0, 1) := by decide +kernel
theorem wdX12_mostTones_31 : decode cX12_mostTones 31 = .ok (.getfield 17, 3) := by decide +kernel
theorem wdX12_mostTones_34 : decode cX12_mostTones 34 = .ok (.iload_n 2, 1) := by decide +kernel
theorem wdX12_mostTones_35 : decode cX12_mostTones 35 = .ok (.invokestatic 69, 3) := by decide +kernel
theorem wdX12_mostTones_38 : decode cX12_mostTones 38 = .ok (.invokestatic 76, 3) := by decide +kernel
theorem wdX12_mostTones_41 : decode cX12_mostTones 41 = .ok (.istore_n 1, 1) := by decide +kernel
set_option maxRecDepth 4000 in
theorem lp_X12_mostTones {p : Program} {l : Launch} {e : Env} {s : State} {m : MethodId} {args : Array Value} {below : List Frame} {meth : Method} {c : Code} {D : va_G} {B : Nat} {cy : Nat → ClassId} {H0 : Heap} {Q : State → Prop} {M : Mem} {R : Room} {q hv ed : Nat} {o : Wo} {z9 : Int} (F : CallFix p m c cX12_mostTones 3 s args TB RX12) (hR1 : 2 ≤ R.frames) (hR2 : 44 ≤ R.locals) (hR : RW M q hv ed o z9) (kk : ∀ (t : Nat) (H : Heap) (locs : List Loc) (ls : Array Slot), (t = q) → Wd D B cy s H0 M H locs → lv_has ls 3 [(1, .int (zI (((maxP (fun s => pop (tmk o.2.2 s o.1)) t) : Nat) : Int)))] → W p l e R s m args below meth c H locs 0 0 Q (F0 m 48 ls [])) : ∀ (f : Nat) (t : Nat), (t ≤ q) → (q ≤ t + f) → ∀ (H : Heap) (locs : List Loc) (ls : Array Slot), Wd D B cy s H0 M H locs → lv_has ls 3 [(2, .int (zI (t : Int))), (1, .int (zI (((maxP (fun s => pop (tmk o.2.2 s o.1)) t) : Nat) : Int))), (0, .ref (B + 146))] → W p l e R s m args below meth c H locs 0 0 Q (F0 m 4 ls []) := by
  have hx := F.1
  have hb := F.2.1
  have hW := hR.1
  have hwf := hR.wf
  have hKL := hwf.2.2.2.2
  have hn12 := hwf.1
  have hq12 := hwf.2.1
  have hhv := hwf.2.2.1
  have hed := hwf.2.2.2.1
  have hc := hR.2.2.2.2
  intro f
  induction f with
  | zero =>
    intro t i0 hf H locs ls w hl
    have hmx : maxP (fun s => pop (tmk o.2.2 s o.1)) t ≤ 12 := maxP_le (fun k _ => (pop_le _ (tmk_lt hn12)).1)
    refine lv_iload_n hx hb wdX12_mostTones_4 rfl (lv_at hl 0 rfl) ?_
    refine lv_aload_n hx hb wdX12_mostTones_5 rfl (lv_at hl 2 rfl) ?_
    refine f_12_2 F w (a := 146) rfl wtb_102 wdX12_mostTones_6 ?_
    refine lv_bipush (v := zI 25) hx hb wdX12_mostTones_9 (by decide) ?_
    refine g_iald F w (a := 148) rfl (j := 25) ⟨by decide, by decide⟩ (by omega) wdX12_mostTones_11 ?_
    refine r_val (v := (zI (q : Int))) (hW.2.1) ?_
    refine z_icmp_ge (tgt := 48) hx hb (by omega) (by omega) wdX12_mostTones_12 (by decide) (fun c1 => ?_) (fun c1 => False.elim (by omega))
    exact kk t _ _ ls (by omega) w (lv_sub hl [1] rfl)
  | succ f ih =>
    intro t i0 hf H locs ls w hl
    have hmx : maxP (fun s => pop (tmk o.2.2 s o.1)) t ≤ 12 := maxP_le (fun k _ => (pop_le _ (tmk_lt hn12)).1)
    refine lv_iload_n hx hb wdX12_mostTones_4 rfl (lv_at hl 0 rfl) ?_
    refine lv_aload_n hx hb wdX12_mostTones_5 rfl (lv_at hl 2 rfl) ?_
    refine f_12_2 F w (a := 146) rfl wtb_102 wdX12_mostTones_6 ?_
    refine lv_bipush (v := zI 25) hx hb wdX12_mostTones_9 (by decide) ?_
    refine g_iald F w (a := 148) rfl (j := 25) ⟨by decide, by decide⟩ (by omega) wdX12_mostTones_11 ?_
    refine r_val (v := (zI (q : Int))) (hW.2.1) ?_
    refine z_icmp_ge (tgt := 48) hx hb (by omega) (by omega) wdX12_mostTones_12 (by decide) (fun c1 => ?_) (fun c1 => ?_)
    · exact kk t _ _ ls (by omega) w (lv_sub hl [1] rfl)
    · refine lv_aload_n hx hb wdX12_mostTones_15 rfl (lv_at hl 2 rfl) ?_
      refine f_12_2 F w (a := 146) rfl wtb_102 wdX12_mostTones_16 ?_
      refine lv_iload_n hx hb wdX12_mostTones_19 rfl (lv_at hl 0 rfl) ?_
      refine x_Si F w (As := [.ref (B + 148), .int (zI (t : Int))]) (rest := []) (s_X12_tonesOf (a := 148) rfl hW hwf (j := t) (by omega)) wgs_X12_69 whs_X12_tonesOf ⟨(by omega), (by omega)⟩ hl.1 rfl (Nat.le_of_ble_eq_true rfl) ⟨Nat.zero_le _, Nat.zero_le _⟩ wdX12_mostTones_20 (fun H locs w => ?_)
      have hm1 := tmk_lt (L := o.2.2) (j := t) (n := o.1) (by omega)
      refine x_Si F w (As := [.int (zI (((tmk o.2.2 t o.1) : Nat) : Int))]) (rest := []) (s_X12_bitsOf (m9 := (tmk o.2.2 t o.1)) (by omega)) wgs_X12_76 whs_X12_bitsOf ⟨(by omega), (by omega)⟩ hl.1 rfl (Nat.le_of_ble_eq_true rfl) ⟨Nat.zero_le _, Nat.zero_le _⟩ wdX12_mostTones_23 (fun H locs w => ?_)
      have hp2 := (pop_le (tmk o.2.2 t o.1) (by omega)).1
      refine lv_iload_n hx hb wdX12_mostTones_26 rfl (lv_at hl 1 rfl) ?_
      refine z_icmp_le (tgt := 42) hx hb (by omega) (by omega) wdX12_mostTones_27 (by decide) (fun c4 => ?_) (fun c4 => ?_)
      · refine z_iinc (v := (((t + 1) : Nat) : Int)) (lv' := [(2, .int (zI (((t + 1) : Nat) : Int))), (1, .int (zI (((maxP (fun s => pop (tmk o.2.2 s o.1)) t) : Nat) : Int))), (0, .ref (B + 146))]) hx hb wdX12_mostTones_42 hl (k := 0) rfl (by omega) (by decide) rfl (fun ls hl => ?_)
        refine lv_goto (tgt := 4) hx hb wdX12_mostTones_45 (by decide) ?_
        replace hl : lv_has ls 3 [(2, .int (zI (((t + 1) : Nat) : Int))), (1, .int (zI (((maxP (fun s => pop (tmk o.2.2 s o.1)) (t + 1)) : Nat) : Int))), (0, .ref (B + 146))] := by rw [maxP_n (F := (fun s => pop (tmk o.2.2 s o.1))) (t := t) (by show ¬ maxP (fun s => pop (tmk o.2.2 s o.1)) t < pop (tmk o.2.2 t o.1); omega)]; exact hl
        exact ih (t + 1) (by omega) (by omega) _ _ ls w (lv_sub hl [0, 1, 2] rfl)
      · refine lv_aload_n hx hb wdX12_mostTones_30 rfl (lv_at hl 2 rfl) ?_
        refine f_12_2 F w (a := 146) rfl wtb_102 wdX12_mostTones_31 ?_
        refine lv_iload_n hx hb wdX12_mostTones_34 rfl (lv_at hl 0 rfl) ?_
        refine x_Si F w (As := [.ref (B + 148), .int (zI (t : Int))]) (rest := []) (s_X12_tonesOf (a := 148) rfl hW hwf (j := t) (by omega)) wgs_X12_69 whs_X12_tonesOf ⟨(by omega), (by omega)⟩ hl.1 rfl (Nat.le_of_ble_eq_true rfl) ⟨Nat.zero_le _, Nat.zero_le _⟩ wdX12_mostTones_35 (fun H locs w => ?_)
        have hm4 := tmk_lt (L := o.2.2) (j := t) (n := o.1) (by omega)
        refine x_Si F w (As := [.int (zI (((tmk o.2.2 t o.1) : Nat) : Int))]) (rest := []) (s_X12_bitsOf (m9 := (tmk o.2.2 t o.1)) (by omega)) wgs_X12_76 whs_X12_bitsOf ⟨(by omega), (by omega)⟩ hl.1 rfl (Nat.le_of_ble_eq_true rfl) ⟨Nat.zero_le _, Nat.zero_le _⟩ wdX12_mostTones_38 (fun H locs w => ?_)
        have hp5 := (pop_le (tmk o.2.2 t o.1) (by omega)).1
        refine lv_istore_n (lv' := [(1, .int (zI (((pop (tmk o.2.2 t o.1)) : Nat) : Int))), (2, .int (zI (t : Int))), (0, .ref (B + 146))]) hx hb wdX12_mostTones_41 rfl hl (by decide) rfl (fun ls hl => ?_)
        refine z_iinc (v := (((t + 1) : Nat) : Int)) (lv' := [(2, .int (zI (((t + 1) : Nat) : Int))), (1, .int (zI (((pop (tmk o.2.2 t o.1)) : Nat) : Int))), (0, .ref (B + 146))]) hx hb wdX12_mostTones_42 hl (k := 1) rfl (by omega) (by decide) rfl (fun ls hl => ?_)
        refine lv_goto (tgt := 4) hx hb wdX12_mostTones_45 (by decide) ?_
        replace hl : lv_has ls 3 [(2, .int (zI (((t + 1) : Nat) : Int))), (1, .int (zI (((maxP (fun s => pop (tmk o.2.2 s o.1)) (t + 1)) : Nat) : Int))), (0, .ref (B + 146))] := by rw [maxP_y (F := (fun s => pop (tmk o.2.2 s o.1))) (t := t) (by show maxP (fun s => pop (tmk o.2.2 s o.1)) t < pop (tmk o.2.2 t o.1); omega)]; exact hl
        exact ih (t + 1) (by omega) (by omega) _ _ ls w (lv_sub hl [0, 1, 2] rfl)
theorem wdX12_mostTones_0 : decode cX12_mostTones 0 = .ok (.iconst 0, 1) := by decide +kernel
theorem wdX12_mostTones_1 : decode cX12_mostTones 1 = .ok (.istore_n 1, 1) := by decide +kernel
theorem wdX12_mostTones_2 : decode cX12_mostTones 2 = .ok (.iconst 0, 1) := by decide +kernel
theorem wdX12_mostTones_3 : decode cX12_mostTones 3 = .ok (.istore_n 2, 1) := by decide +kernel
theorem wdX12_mostTones_48 : decode cX12_mostTones 48 = .ok (.iload_n 1, 1) := by decide +kernel
theorem wdX12_mostTones_49 : decode cX12_mostTones 49 = .ok (.ireturn, 1) := by decide +kernel
set_option maxRecDepth 4000 in
theorem k_mostTones {l : Launch} {D : va_G} {B : Nat} {cy : Nat → ClassId} {M : Mem} {q hv ed : Nat} {o : Wo} {z9 : Int} (hR : RW M q hv ed o z9) : Ci l D B cy yX12_mostTones cX12_mostTones 3 (some .int) 2 44 [.ref (B + 146)] M (fun r M1 => r = zI ((maxP (fun s => pop (tmk o.2.2 s o.1)) q : Nat) : Int) ∧ M1 = M) := by
  refine s_any (by decide) (Nat.le_of_ble_eq_true rfl) ?_
  intro p e s m below meth c ls F hr hlocks w hl
  have F : CallFix p m c cX12_mostTones 3 s _ TB RX12 := F
  have hx := F.1
  have hb := F.2.1
  have hl : lv_has ls 3 [(0, .ref (B + 146))] := hl
  have hW := hR.1
  have hwf := hR.wf
  have hKL := hwf.2.2.2.2
  have hn12 := hwf.1
  have hq12 := hwf.2.1
  have hhv := hwf.2.2.1
  have hed := hwf.2.2.2.1
  have hc := hR.2.2.2.2
  have hmx : maxP (fun s => pop (tmk o.2.2 s o.1)) q ≤ 12 := maxP_le (fun k _ => (pop_le _ (tmk_lt hn12)).1)
  refine lv_iconst (v := zI 0) hx hb wdX12_mostTones_0 rfl ?_
  refine lv_istore_n (lv' := [(1, .int (zI 0)), (0, .ref (B + 146))]) hx hb wdX12_mostTones_1 rfl hl (by decide) rfl (fun ls hl => ?_)
  refine lv_iconst (v := zI 0) hx hb wdX12_mostTones_2 rfl ?_
  refine lv_istore_n (lv' := [(2, .int (zI 0)), (1, .int (zI 0)), (0, .ref (B + 146))]) hx hb wdX12_mostTones_3 rfl hl (by decide) rfl (fun ls hl => ?_)
  refine lp_X12_mostTones  F (Nat.le_of_ble_eq_true rfl) (Nat.le_of_ble_eq_true rfl) hR (fun t H locs ls x0 w hl => ?_) q 0 (by omega) (by omega) _ _ ls w (lv_sub hl [0, 1, 2] rfl)
  rw [x0] at hl
  refine lv_iload_n hx hb wdX12_mostTones_48 rfl (lv_at hl 0 rfl) ?_
  exact e_i F w hr hlocks ⟨rfl, rfl⟩ wdX12_mostTones_49
theorem wdX12_mostSyllables_4 : decode cX12_mostSyllables 4 = .ok (.iload_n 2, 1) := by decide +kernel
theorem wdX12_mostSyllables_5 : decode cX12_mostSyllables 5 = .ok (.aload_n 0, 1) := by decide +kernel
theorem wdX12_mostSyllables_6 : decode cX12_mostSyllables 6 = .ok (.getfield 17, 3) := by decide +kernel
theorem wdX12_mostSyllables_9 : decode cX12_mostSyllables 9 = .ok (.iconst 0, 1) := by decide +kernel
theorem wdX12_mostSyllables_10 : decode cX12_mostSyllables 10 = .ok (.iaload, 1) := by decide +kernel
theorem wdX12_mostSyllables_11 : decode cX12_mostSyllables 11 = .ok (.if_icmp .ge 38, 3) := by decide +kernel
theorem wdX12_mostSyllables_14 : decode cX12_mostSyllables 14 = .ok (.aload_n 0, 1) := by decide +kernel
theorem wdX12_mostSyllables_15 : decode cX12_mostSyllables 15 = .ok (.getfield 17, 3) := by decide +kernel
theorem wdX12_mostSyllables_18 : decode cX12_mostSyllables 18 = .ok (.bipush 13, 2) := by decide +kernel
theorem wdX12_mostSyllables_20 : decode cX12_mostSyllables 20 = .ok (.iload_n 2, 1) := by decide +kernel
theorem wdX12_mostSyllables_21 : decode cX12_mostSyllables 21 = .ok (.iadd, 1) := by decide +kernel
theorem wdX12_mostSyllables_22 : decode cX12_mostSyllables 22 = .ok (.iaload, 1) := by decide +kernel
theorem wdX12_mostSyllables_23 : decode cX12_mostSyllables 23 = .ok (.invokestatic 76, 3) := by decide +kernel
theorem wdX12_mostSyllables_26 : decode cX12_mostSyllables 26 = .ok (.iload_n 1, 1) := by decide +kernel
theorem wdX12_mostSyllables_27 : decode cX12_mostSyllables 27 = .ok (.if_icmp .le 16, 3) := by decide +kernel
theorem wdX12_mostSyllables_43 : decode cX12_mostSyllables 43 = .ok (.iinc 2 1, 3) := by decide +kernel
theorem wdX12_mostSyllables_46 : decode cX12_mostSyllables 46 = .ok (.goto (-42), 3) := by decide +kernel
theorem wdX12_mostSyllables_30 : decode cX12_mostSyllables 30 = .ok (.aload_n 0, 1) := by decide +kernel
theorem wdX12_mostSyllables_31 : decode cX12_mostSyllables 31 = .ok (.getfield 17, 3) := by decide +kernel
theorem wdX12_mostSyllables_34 : decode cX12_mostSyllables 34 = .ok (.bipush 13, 2) := by decide +kernel
theorem wdX12_mostSyllables_36 : decode cX12_mostSyllables 36 = .ok (.iload_n 2, 1) := by decide +kernel
theorem wdX12_mostSyllables_37 : decode cX12_mostSyllables 37 = .ok (.iadd, 1) := by decide +kernel
theorem wdX12_mostSyllables_38 : decode cX12_mostSyllables 38 = .ok (.iaload, 1) := by decide +kernel
theorem wdX12_mostSyllables_39 : decode cX12_mostSyllables 39 = .ok (.invokestatic 76, 3) := by decide +kernel
theorem wdX12_mostSyllables_42 : decode cX12_mostSyllables 42 = .ok (.istore_n 1, 1) := by decide +kernel
set_option maxRecDepth 4000 in
theorem lp_X12_mostSyllables {p : Program} {l : Launch} {e : Env} {s : State} {m : MethodId} {args : Array Value} {below : List Frame} {meth : Method} {c : Code} {D : va_G} {B : Nat} {cy : Nat → ClassId} {H0 : Heap} {Q : State → Prop} {M : Mem} {R : Room} {q hv ed : Nat} {o : Wo} {z9 : Int} (F : CallFix p m c cX12_mostSyllables 3 s args TB RX12) (hR1 : 1 ≤ R.frames) (hR2 : 22 ≤ R.locals) (hR : RW M q hv ed o z9) (kk : ∀ (t : Nat) (H : Heap) (locs : List Loc) (ls : Array Slot), (t = o.1) → Wd D B cy s H0 M H locs → lv_has ls 3 [(1, .int (zI (((maxP (fun t => pop (o.2.2 t)) t) : Nat) : Int)))] → W p l e R s m args below meth c H locs 0 0 Q (F0 m 49 ls [])) : ∀ (f : Nat) (t : Nat), (t ≤ o.1) → (o.1 ≤ t + f) → ∀ (H : Heap) (locs : List Loc) (ls : Array Slot), Wd D B cy s H0 M H locs → lv_has ls 3 [(2, .int (zI (t : Int))), (1, .int (zI (((maxP (fun t => pop (o.2.2 t)) t) : Nat) : Int))), (0, .ref (B + 146))] → W p l e R s m args below meth c H locs 0 0 Q (F0 m 4 ls []) := by
  have hx := F.1
  have hb := F.2.1
  have hW := hR.1
  have hwf := hR.wf
  have hKL := hwf.2.2.2.2
  have hn12 := hwf.1
  have hq12 := hwf.2.1
  have hhv := hwf.2.2.1
  have hed := hwf.2.2.2.1
  have hc := hR.2.2.2.2
  intro f
  induction f with
  | zero =>
    intro t i0 hf H locs ls w hl
    have hmx : maxP (fun t => pop (o.2.2 t)) t ≤ 12 := maxP_le (fun k hk9 => (pop_le _ (hKL k (by omega)).2).1)
    refine lv_iload_n hx hb wdX12_mostSyllables_4 rfl (lv_at hl 0 rfl) ?_
    refine lv_aload_n hx hb wdX12_mostSyllables_5 rfl (lv_at hl 2 rfl) ?_
    refine f_12_2 F w (a := 146) rfl wtb_102 wdX12_mostSyllables_6 ?_
    refine lv_iconst (v := zI 0) hx hb wdX12_mostSyllables_9 rfl ?_
    refine g_iald F w (a := 148) rfl (j := 0) ⟨by decide, by decide⟩ (by omega) wdX12_mostSyllables_10 ?_
    refine r_val (v := (zI ((o.1 : Nat) : Int))) (hW.1) ?_
    refine z_icmp_ge (tgt := 49) hx hb (by omega) (by omega) wdX12_mostSyllables_11 (by decide) (fun c1 => ?_) (fun c1 => False.elim (by omega))
    exact kk t _ _ ls (by omega) w (lv_sub hl [1] rfl)
  | succ f ih =>
    intro t i0 hf H locs ls w hl
    have hmx : maxP (fun t => pop (o.2.2 t)) t ≤ 12 := maxP_le (fun k hk9 => (pop_le _ (hKL k (by omega)).2).1)
    refine lv_iload_n hx hb wdX12_mostSyllables_4 rfl (lv_at hl 0 rfl) ?_
    refine lv_aload_n hx hb wdX12_mostSyllables_5 rfl (lv_at hl 2 rfl) ?_
    refine f_12_2 F w (a := 146) rfl wtb_102 wdX12_mostSyllables_6 ?_
    refine lv_iconst (v := zI 0) hx hb wdX12_mostSyllables_9 rfl ?_
    refine g_iald F w (a := 148) rfl (j := 0) ⟨by decide, by decide⟩ (by omega) wdX12_mostSyllables_10 ?_
    refine r_val (v := (zI ((o.1 : Nat) : Int))) (hW.1) ?_
    refine z_icmp_ge (tgt := 49) hx hb (by omega) (by omega) wdX12_mostSyllables_11 (by decide) (fun c1 => ?_) (fun c1 => ?_)
    · exact kk t _ _ ls (by omega) w (lv_sub hl [1] rfl)
    · refine lv_aload_n hx hb wdX12_mostSyllables_14 rfl (lv_at hl 2 rfl) ?_
      refine f_12_2 F w (a := 146) rfl wtb_102 wdX12_mostSyllables_15 ?_
      refine lv_bipush (v := zI 13) hx hb wdX12_mostSyllables_18 (by decide) ?_
      refine lv_iload_n hx hb wdX12_mostSyllables_20 rfl (lv_at hl 0 rfl) ?_
      refine z_iadd (z := (((13 + t) : Nat) : Int)) hx hb wdX12_mostSyllables_21 (by omega) ?_
      refine g_iald F w (a := 148) rfl (j := (13 + t)) (ix_n (by omega)) (by omega) wdX12_mostSyllables_22 ?_
      have hL1 := (hKL t (by omega)).2
      refine r_val (v := (zI (((o.2.2 t) : Nat) : Int))) (hW.2.2.2.2.2 t (by omega)) ?_
      refine x_Si F w (As := [.int (zI (((o.2.2 t) : Nat) : Int))]) (rest := []) (s_X12_bitsOf (m9 := (o.2.2 t)) (by omega)) wgs_X12_76 whs_X12_bitsOf ⟨(by omega), (by omega)⟩ hl.1 rfl (Nat.le_of_ble_eq_true rfl) ⟨Nat.zero_le _, Nat.zero_le _⟩ wdX12_mostSyllables_23 (fun H locs w => ?_)
      have hp1 := (pop_le (o.2.2 t) (by omega)).1
      refine lv_iload_n hx hb wdX12_mostSyllables_26 rfl (lv_at hl 1 rfl) ?_
      refine z_icmp_le (tgt := 43) hx hb (by omega) (by omega) wdX12_mostSyllables_27 (by decide) (fun c3 => ?_) (fun c3 => ?_)
      · refine z_iinc (v := (((t + 1) : Nat) : Int)) (lv' := [(2, .int (zI (((t + 1) : Nat) : Int))), (1, .int (zI (((maxP (fun t => pop (o.2.2 t)) t) : Nat) : Int))), (0, .ref (B + 146))]) hx hb wdX12_mostSyllables_43 hl (k := 0) rfl (by omega) (by decide) rfl (fun ls hl => ?_)
        refine lv_goto (tgt := 4) hx hb wdX12_mostSyllables_46 (by decide) ?_
        replace hl : lv_has ls 3 [(2, .int (zI (((t + 1) : Nat) : Int))), (1, .int (zI (((maxP (fun t => pop (o.2.2 t)) (t + 1)) : Nat) : Int))), (0, .ref (B + 146))] := by rw [maxP_n (F := (fun t => pop (o.2.2 t))) (t := t) (by show ¬ maxP (fun t => pop (o.2.2 t)) t < pop (o.2.2 t); omega)]; exact hl
        exact ih (t + 1) (by omega) (by omega) _ _ ls w (lv_sub hl [0, 1, 2] rfl)
      · refine lv_aload_n hx hb wdX12_mostSyllables_30 rfl (lv_at hl 2 rfl) ?_
        refine f_12_2 F w (a := 146) rfl wtb_102 wdX12_mostSyllables_31 ?_
        refine lv_bipush (v := zI 13) hx hb wdX12_mostSyllables_34 (by decide) ?_
        refine lv_iload_n hx hb wdX12_mostSyllables_36 rfl (lv_at hl 0 rfl) ?_
        refine z_iadd (z := (((13 + t) : Nat) : Int)) hx hb wdX12_mostSyllables_37 (by omega) ?_
        refine g_iald F w (a := 148) rfl (j := (13 + t)) (ix_n (by omega)) (by omega) wdX12_mostSyllables_38 ?_
        have hL3 := (hKL t (by omega)).2
        refine r_val (v := (zI (((o.2.2 t) : Nat) : Int))) (hW.2.2.2.2.2 t (by omega)) ?_
        refine x_Si F w (As := [.int (zI (((o.2.2 t) : Nat) : Int))]) (rest := []) (s_X12_bitsOf (m9 := (o.2.2 t)) (by omega)) wgs_X12_76 whs_X12_bitsOf ⟨(by omega), (by omega)⟩ hl.1 rfl (Nat.le_of_ble_eq_true rfl) ⟨Nat.zero_le _, Nat.zero_le _⟩ wdX12_mostSyllables_39 (fun H locs w => ?_)
        have hp3 := (pop_le (o.2.2 t) (by omega)).1
        refine lv_istore_n (lv' := [(1, .int (zI (((pop (o.2.2 t)) : Nat) : Int))), (2, .int (zI (t : Int))), (0, .ref (B + 146))]) hx hb wdX12_mostSyllables_42 rfl hl (by decide) rfl (fun ls hl => ?_)
        refine z_iinc (v := (((t + 1) : Nat) : Int)) (lv' := [(2, .int (zI (((t + 1) : Nat) : Int))), (1, .int (zI (((pop (o.2.2 t)) : Nat) : Int))), (0, .ref (B + 146))]) hx hb wdX12_mostSyllables_43 hl (k := 1) rfl (by omega) (by decide) rfl (fun ls hl => ?_)
        refine lv_goto (tgt := 4) hx hb wdX12_mostSyllables_46 (by decide) ?_
        replace hl : lv_has ls 3 [(2, .int (zI (((t + 1) : Nat) : Int))), (1, .int (zI (((maxP (fun t => pop (o.2.2 t)) (t + 1)) : Nat) : Int))), (0, .ref (B + 146))] := by rw [maxP_y (F := (fun t => pop (o.2.2 t))) (t := t) (by show maxP (fun t => pop (o.2.2 t)) t < pop (o.2.2 t); omega)]; exact hl
        exact ih (t + 1) (by omega) (by omega) _ _ ls w (lv_sub hl [0, 1, 2] rfl)
theorem wdX12_mostSyllables_0 : decode cX12_mostSyllables 0 = .ok (.iconst 0, 1) := by decide +kernel
theorem wdX12_mostSyllables_1 : decode cX12_mostSyllables 1 = .ok (.istore_n 1, 1) := by decide +kernel
theorem wdX12_mostSyllables_2 : decode cX12_mostSyllables 2 = .ok (.iconst 0, 1) := by decide +kernel
theorem wdX12_mostSyllables_3 : decode cX12_mostSyllables 3 = .ok (.istore_n 2, 1) := by decide +kernel
theorem wdX12_mostSyllables_49 : decode cX12_mostSyllables 49 = .ok (.iload_n 1, 1) := by decide +kernel
theorem wdX12_mostSyllables_50 : decode cX12_mostSyllables 50 = .ok (.ireturn, 1) := by decide +kernel
set_option maxRecDepth 4000 in
theorem k_mostSyllables {l : Launch} {D : va_G} {B : Nat} {cy : Nat → ClassId} {M : Mem} {q hv ed : Nat} {o : Wo} {z9 : Int} (hR : RW M q hv ed o z9) : Ci l D B cy yX12_mostSyllables cX12_mostSyllables 3 (some .int) 1 22 [.ref (B + 146)] M (fun r M1 => r = zI ((maxP (fun t => pop (o.2.2 t)) o.1 : Nat) : Int) ∧ M1 = M) := by
  refine s_any (by decide) (Nat.le_of_ble_eq_true rfl) ?_
  intro p e s m below meth c ls F hr hlocks w hl
  have F : CallFix p m c cX12_mostSyllables 3 s _ TB RX12 := F
  have hx := F.1
  have hb := F.2.1
  have hl : lv_has ls 3 [(0, .ref (B + 146))] := hl
  have hW := hR.1
  have hwf := hR.wf
  have hKL := hwf.2.2.2.2
  have hn12 := hwf.1
  have hq12 := hwf.2.1
  have hhv := hwf.2.2.1
  have hed := hwf.2.2.2.1
  have hc := hR.2.2.2.2
  have hmx : maxP (fun t => pop (o.2.2 t)) o.1 ≤ 12 := maxP_le (fun k hk9 => (pop_le _ (hKL k (by omega)).2).1)
  refine lv_iconst (v := zI 0) hx hb wdX12_mostSyllables_0 rfl ?_
  refine lv_istore_n (lv' := [(1, .int (zI 0)), (0, .ref (B + 146))]) hx hb wdX12_mostSyllables_1 rfl hl (by decide) rfl (fun ls hl => ?_)
  refine lv_iconst (v := zI 0) hx hb wdX12_mostSyllables_2 rfl ?_
  refine lv_istore_n (lv' := [(2, .int (zI 0)), (1, .int (zI 0)), (0, .ref (B + 146))]) hx hb wdX12_mostSyllables_3 rfl hl (by decide) rfl (fun ls hl => ?_)
  refine lp_X12_mostSyllables  F (Nat.le_of_ble_eq_true rfl) (Nat.le_of_ble_eq_true rfl) hR (fun t H locs ls x0 w hl => ?_) o.1 0 (by omega) (by omega) _ _ ls w (lv_sub hl [0, 1, 2] rfl)
  rw [x0] at hl
  refine lv_iload_n hx hb wdX12_mostSyllables_49 rfl (lv_at hl 0 rfl) ?_
  exact e_i F w hr hlocks ⟨rfl, rfl⟩ wdX12_mostSyllables_50
theorem wdX12_toBare_2 : decode cX12_toBare 2 = .ok (.iload_n 1, 1) := by decide +kernel
theorem wdX12_toBare_3 : decode cX12_toBare 3 = .ok (.aload_n 0, 1) := by decide +kernel
theorem wdX12_toBare_4 : decode cX12_toBare 4 = .ok (.getfield 17, 3) := by decide +kernel
theorem wdX12_toBare_7 : decode cX12_toBare 7 = .ok (.bipush 25, 2) := by decide +kernel
theorem wdX12_toBare_9 : decode cX12_toBare 9 = .ok (.iaload, 1) := by decide +kernel
theorem wdX12_toBare_10 : decode cX12_toBare 10 = .ok (.if_icmp .ge 17, 3) := by decide +kernel
theorem wdX12_toBare_13 : decode cX12_toBare 13 = .ok (.aload_n 0, 1) := by decide +kernel
theorem wdX12_toBare_14 : decode cX12_toBare 14 = .ok (.iload_n 1, 1) := by decide +kernel
theorem wdX12_toBare_15 : decode cX12_toBare 15 = .ok (.invokevirtual 82, 3) := by decide +kernel
theorem wdX12_toBare_18 : decode cX12_toBare 18 = .ok (.ifCond .ne 9, 3) := by decide +kernel
theorem wdX12_toBare_21 : decode cX12_toBare 21 = .ok (.iinc 1 1, 3) := by decide +kernel
theorem wdX12_toBare_24 : decode cX12_toBare 24 = .ok (.goto (-22), 3) := by decide +kernel
set_option maxRecDepth 4000 in
theorem lp_X12_toBare {p : Program} {l : Launch} {e : Env} {s : State} {m : MethodId} {args : Array Value} {below : List Frame} {meth : Method} {c : Code} {D : va_G} {B : Nat} {cy : Nat → ClassId} {H0 : Heap} {Q : State → Prop} {M : Mem} {R : Room} {q hv ed : Nat} {o : Wo} {z9 : Int} (F : CallFix p m c cX12_toBare 2 s args TB RX12) (hR1 : 3 ≤ R.frames) (hR2 : 65 ≤ R.locals) (hR : RW M q hv ed o z9) (kk : ∀ (t : Nat) (H : Heap) (locs : List Loc) (ls : Array Slot), (t = fbF o.1 q o.2.2) → Wd D B cy s H0 M H locs → lv_has ls 2 [(1, .int (zI (t : Int)))] → W p l e R s m args below meth c H locs 0 0 Q (F0 m 27 ls [])) : ∀ (f : Nat) (t : Nat), (t ≤ q) → (∀ j, j < t → ¬ bareP o.1 o.2.2 j) → (q ≤ t + f) → ∀ (H : Heap) (locs : List Loc) (ls : Array Slot), Wd D B cy s H0 M H locs → lv_has ls 2 [(1, .int (zI (t : Int))), (0, .ref (B + 146))] → W p l e R s m args below meth c H locs 0 0 Q (F0 m 2 ls []) := by
  have hx := F.1
  have hb := F.2.1
  have hW := hR.1
  have hwf := hR.wf
  have hKL := hwf.2.2.2.2
  have hn12 := hwf.1
  have hq12 := hwf.2.1
  have hhv := hwf.2.2.1
  have hed := hwf.2.2.2.1
  have hc := hR.2.2.2.2
  intro f
  induction f with
  | zero =>
    intro t i0 i1 hf H locs ls w hl
    refine lv_iload_n hx hb wdX12_toBare_2 rfl (lv_at hl 0 rfl) ?_
    refine lv_aload_n hx hb wdX12_toBare_3 rfl (lv_at hl 1 rfl) ?_
    refine f_12_2 F w (a := 146) rfl wtb_102 wdX12_toBare_4 ?_
    refine lv_bipush (v := zI 25) hx hb wdX12_toBare_7 (by decide) ?_
    refine g_iald F w (a := 148) rfl (j := 25) ⟨by decide, by decide⟩ (by omega) wdX12_toBare_9 ?_
    refine r_val (v := (zI (q : Int))) (hW.2.1) ?_
    refine z_icmp_ge (tgt := 27) hx hb (by omega) (by omega) wdX12_toBare_10 (by decide) (fun c1 => ?_) (fun c1 => False.elim (by omega))
    exact kk t _ _ ls (fb_at hq12 (by omega) i1 (Or.inl (by omega))) w (lv_sub hl [0] rfl)
  | succ f ih =>
    intro t i0 i1 hf H locs ls w hl
    refine lv_iload_n hx hb wdX12_toBare_2 rfl (lv_at hl 0 rfl) ?_
    refine lv_aload_n hx hb wdX12_toBare_3 rfl (lv_at hl 1 rfl) ?_
    refine f_12_2 F w (a := 146) rfl wtb_102 wdX12_toBare_4 ?_
    refine lv_bipush (v := zI 25) hx hb wdX12_toBare_7 (by decide) ?_
    refine g_iald F w (a := 148) rfl (j := 25) ⟨by decide, by decide⟩ (by omega) wdX12_toBare_9 ?_
    refine r_val (v := (zI (q : Int))) (hW.2.1) ?_
    refine z_icmp_ge (tgt := 27) hx hb (by omega) (by omega) wdX12_toBare_10 (by decide) (fun c1 => ?_) (fun c1 => ?_)
    · exact kk t _ _ ls (fb_at hq12 (by omega) i1 (Or.inl (by omega))) w (lv_sub hl [0] rfl)
    · refine lv_aload_n hx hb wdX12_toBare_13 rfl (lv_at hl 1 rfl) ?_
      refine lv_iload_n hx hb wdX12_toBare_14 rfl (lv_at hl 0 rfl) ?_
      refine k_Vi F w (As := [.int (zI (t : Int))]) (rest := []) (a := 146) (kd_lt (a := 146) (show kd 146 = (12, 0, 0) from rfl) (by decide)) (sh_12 rfl _ _) rfl (s_X12_isBare hW hwf hc (j := t) (by omega)) wgv_X12_82 whv_X12_isBare ⟨(by omega), (by omega)⟩ hl.1 rfl (Nat.le_of_ble_eq_true rfl) ⟨Nat.zero_le _, Nat.zero_le _⟩ wdX12_toBare_15 (fun r Ma3 H locs hp w => ?_)
      rcases hp with ⟨⟨hb2, rfl⟩ | ⟨hb2, rfl⟩, hMe⟩
      · rw [hMe] at w
        refine z_if_ne (tgt := 27) hx hb (by omega) wdX12_toBare_18 (by decide) (fun c4 => ?_) (fun c4 => False.elim (by omega))
        exact kk t _ _ ls (fb_at hq12 (by omega) i1 (Or.inr hb2)) w (lv_sub hl [0] rfl)
      · rw [hMe] at w
        refine z_if_ne (tgt := 27) hx hb (by omega) wdX12_toBare_18 (by decide) (fun c5 => False.elim (by omega)) (fun c5 => ?_)
        refine z_iinc (v := (((t + 1) : Nat) : Int)) (lv' := [(1, .int (zI (((t + 1) : Nat) : Int))), (0, .ref (B + 146))]) hx hb wdX12_toBare_21 hl (k := 0) rfl (by omega) (by decide) rfl (fun ls hl => ?_)
        refine lv_goto (tgt := 2) hx hb wdX12_toBare_24 (by decide) ?_
        exact ih (t + 1) (by omega) (fun j hj => by by_cases h9 : j = t; (rw [h9]; exact hb2); exact i1 j (by omega)) (by omega) _ _ ls w (lv_sub hl [0, 1] rfl)
theorem wdX12_toBare_0 : decode cX12_toBare 0 = .ok (.iconst 0, 1) := by decide +kernel
theorem wdX12_toBare_1 : decode cX12_toBare 1 = .ok (.istore_n 1, 1) := by decide +kernel
theorem wdX12_toBare_27 : decode cX12_toBare 27 = .ok (.iload_n 1, 1) := by decide +kernel
theorem wdX12_toBare_28 : decode cX12_toBare 28 = .ok (.ireturn, 1) := by decide +kernel
set_option maxRecDepth 4000 in
theorem k_toBare {l : Launch} {D : va_G} {B : Nat} {cy : Nat → ClassId} {M : Mem} {q hv ed : Nat} {o : Wo} {z9 : Int} (hR : RW M q hv ed o z9) : Ci l D B cy yX12_toBare cX12_toBare 2 (some .int) 3 65 [.ref (B + 146)] M (fun r M1 => r = zI ((fbF o.1 q o.2.2 : Nat) : Int) ∧ M1 = M) := by
  refine s_any (by decide) (Nat.le_of_ble_eq_true rfl) ?_
  intro p e s m below meth c ls F hr hlocks w hl
  have F : CallFix p m c cX12_toBare 2 s _ TB RX12 := F
  have hx := F.1
  have hb := F.2.1
  have hl : lv_has ls 2 [(0, .ref (B + 146))] := hl
  have hW := hR.1
  have hwf := hR.wf
  have hKL := hwf.2.2.2.2
  have hn12 := hwf.1
  have hq12 := hwf.2.1
  have hhv := hwf.2.2.1
  have hed := hwf.2.2.2.1
  have hc := hR.2.2.2.2
  have hff := fb_le (n := o.1) (L := o.2.2) hq12
  refine lv_iconst (v := zI 0) hx hb wdX12_toBare_0 rfl ?_
  refine lv_istore_n (lv' := [(1, .int (zI 0)), (0, .ref (B + 146))]) hx hb wdX12_toBare_1 rfl hl (by decide) rfl (fun ls hl => ?_)
  refine lp_X12_toBare  F (Nat.le_of_ble_eq_true rfl) (Nat.le_of_ble_eq_true rfl) hR (fun t H locs ls x0 w hl => ?_) q 0 (by omega) (fun j hj => absurd hj (Nat.not_lt_zero j)) (by omega) _ _ ls w (lv_sub hl [0, 1] rfl)
  rw [x0] at hl
  refine lv_iload_n hx hb wdX12_toBare_27 rfl (lv_at hl 0 rfl) ?_
  exact e_i F w hr hlocks ⟨rfl, rfl⟩ wdX12_toBare_28
theorem wdX12_orNeither_0 : decode cX12_orNeither 0 = .ok (.iload_n 0, 1) := by decide +kernel
theorem wdX12_orNeither_1 : decode cX12_orNeither 1 = .ok (.iconst (-1), 1) := by decide +kernel
theorem wdX12_orNeither_2 : decode cX12_orNeither 2 = .ok (.if_icmp .ne 8, 3) := by decide +kernel
theorem wdX12_orNeither_10 : decode cX12_orNeither 10 = .ok (.iload_n 0, 1) := by decide +kernel
theorem wdX12_orNeither_11 : decode cX12_orNeither 11 = .ok (.ireturn, 1) := by decide +kernel
theorem wdX12_orNeither_5 : decode cX12_orNeither 5 = .ok (.bipush (-2), 2) := by decide +kernel
theorem wdX12_orNeither_7 : decode cX12_orNeither 7 = .ok (.goto 4, 3) := by decide +kernel
set_option maxRecDepth 4000 in
theorem k_orNeither {l : Launch} {D : va_G} {B : Nat} {cy : Nat → ClassId} {M : Mem} {x9 : Int} (hx9 : rg x9) : Ci l D B cy yX12_orNeither cX12_orNeither 1 (some .int) 0 0 [.int (zI x9)] M (fun r M1 => r = zI (orN x9) ∧ M1 = M) := by
  refine s_any (by decide) (Nat.le_of_ble_eq_true rfl) ?_
  intro p e s m below meth c ls F hr hlocks w hl
  have F : CallFix p m c cX12_orNeither 1 s _ TB RX12 := F
  have hx := F.1
  have hb := F.2.1
  have hl : lv_has ls 1 [(0, .int (zI x9))] := hl
  refine lv_iload_n hx hb wdX12_orNeither_0 rfl (lv_at hl 0 rfl) ?_
  refine lv_iconst (v := zI (-1)) hx hb wdX12_orNeither_1 rfl ?_
  refine z_icmp_ne (tgt := 10) hx hb (by omega) (by omega) wdX12_orNeither_2 (by decide) (fun c1 => ?_) (fun c1 => ?_)
  · refine lv_iload_n hx hb wdX12_orNeither_10 rfl (lv_at hl 0 rfl) ?_
    exact e_i F w hr hlocks ⟨congrArg zI (orN_n (by omega)).symm, rfl⟩ wdX12_orNeither_11
  · refine lv_bipush (v := zI (-2)) hx hb wdX12_orNeither_5 (by decide) ?_
    refine lv_goto (tgt := 11) hx hb wdX12_orNeither_7 (by decide) ?_
    exact e_i F w hr hlocks ⟨congrArg zI (orN_y (by omega)).symm, rfl⟩ wdX12_orNeither_11
