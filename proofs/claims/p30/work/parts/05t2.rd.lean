theorem rdX8_signAt_0 : decode cX8_signAt 0 = .ok (.iload_n 1, 1) := dq0 kk_27 (by decide +kernel)
theorem rdX8_signAt_1 : decode cX8_signAt 1 = .ok (.ifCond .lt 31, 3) := dqT kk_155 (by decide +kernel)
theorem rdX8_signAt_32 : decode cX8_signAt 32 = .ok (.iconst (-1), 1) := dq0 kk_2 (by decide +kernel)
theorem rdX8_signAt_33 : decode cX8_signAt 33 = .ok (.ireturn, 1) := dq0 kk_172 (by decide +kernel)
theorem rdX8_signAt_4 : decode cX8_signAt 4 = .ok (.iload_n 1, 1) := dq0 kk_27 (by decide +kernel)
theorem rdX8_signAt_5 : decode cX8_signAt 5 = .ok (.aload_n 0, 1) := dq0 kk_42 (by decide +kernel)
theorem rdX8_signAt_6 : decode cX8_signAt 6 = .ok (.getfield 15, 3) := dqV kk_180 (by decide +kernel)
theorem rtb_19 : Cond.fieldLink "ToneLines$Tape" 15 "ToneLines$Tape" "size" "I" ∈ TB := tbm (tc1 (List.mem_of_getElem? (i := 38) rfl)) rfl
theorem rdX8_signAt_9 : decode cX8_signAt 9 = .ok (.if_icmp .ge 23, 3) := dqT kk_162 (by decide +kernel)
theorem rdX8_signAt_12 : decode cX8_signAt 12 = .ok (.iload_n 1, 1) := dq0 kk_27 (by decide +kernel)
theorem rdX8_signAt_13 : decode cX8_signAt 13 = .ok (.sipush 300, 3) := dqT kk_17 (by decide +kernel)
theorem rdX8_signAt_16 : decode cX8_signAt 16 = .ok (.if_icmp .ge 16, 3) := dqT kk_162 (by decide +kernel)
theorem rdX8_signAt_19 : decode cX8_signAt 19 = .ok (.aload_n 0, 1) := dq0 kk_42 (by decide +kernel)
theorem rdX8_signAt_20 : decode cX8_signAt 20 = .ok (.getfield 9, 3) := dqV kk_180 (by decide +kernel)
theorem rtb_20 : Cond.fieldLink "ToneLines$Tape" 9 "ToneLines$Tape" "bytes" "[B" ∈ TB := tbm (tc1 (List.mem_of_getElem? (i := 37) rfl)) rfl
theorem rdX8_signAt_23 : decode cX8_signAt 23 = .ok (.iload_n 1, 1) := dq0 kk_27 (by decide +kernel)
theorem rdX8_signAt_24 : decode cX8_signAt 24 = .ok (.baload, 1) := dq0 kk_51 (by decide +kernel)
theorem rdX8_signAt_25 : decode cX8_signAt 25 = .ok (.sipush 255, 3) := dqT kk_17 (by decide +kernel)
theorem rdX8_signAt_28 : decode cX8_signAt 28 = .ok (.iand, 1) := dq0 kk_126 (by decide +kernel)
theorem rdX8_signAt_29 : decode cX8_signAt 29 = .ok (.goto 4, 3) := dqT kk_167 (by decide +kernel)
set_option maxRecDepth 4000 in
theorem s_X8_signAt {l : Launch} {D : va_G} {B : Nat} {cy : Nat → ClassId} {M : Mem} {T : Nat → Nat} {tn : Nat} (hT : okT T tn) (hTc : isTc M T tn) {z : Int} (hz : rg z) : Ci l D B cy yX8_signAt cX8_signAt 2 (some .int) 0 0 [.ref (B + 1), .int (zI z)] M (fun r M1 => r = zI (sg T tn z) ∧ M1 = M) := by
  refine s_any (by decide) (Nat.le_of_ble_eq_true rfl) ?_
  intro p e s m below meth c ls F hr hlocks w hl
  have F : CallFix p m c cX8_signAt 2 s _ TB RX8 := F
  have hx := F.1
  have hb := F.2.1
  have hl : lv_has ls 2 [(0, .ref (B + 1)), (1, .int (zI z))] := hl
  have hN := hT.1
  refine lv_iload_n hx hb rdX8_signAt_0 rfl (lv_at hl 1 rfl) ?_
  refine z_if_lt (tgt := 32) hx hb (by omega) rdX8_signAt_1 (by decide) (fun c1 => ?_) (fun c1 => ?_)
  · refine lv_iconst (v := zI (-1)) hx hb rdX8_signAt_32 rfl ?_
    exact e_i F w hr hlocks ⟨congrArg zI (sg_n (by omega)).symm, rfl⟩ rdX8_signAt_33
  · refine lv_iload_n hx hb rdX8_signAt_4 rfl (lv_at hl 1 rfl) ?_
    refine lv_aload_n hx hb rdX8_signAt_5 rfl (lv_at hl 0 rfl) ?_
    refine f_8_1 F w (a := 1) rfl rtb_19 rdX8_signAt_6 ?_
    refine r_val (v := (zI (tn : Int))) (hTc.1) ?_
    refine z_icmp_ge (tgt := 32) hx hb (by omega) (by omega) rdX8_signAt_9 (by decide) (fun c2 => ?_) (fun c2 => ?_)
    · refine lv_iconst (v := zI (-1)) hx hb rdX8_signAt_32 rfl ?_
      exact e_i F w hr hlocks ⟨congrArg zI (sg_n (by omega)).symm, rfl⟩ rdX8_signAt_33
    · refine lv_iload_n hx hb rdX8_signAt_12 rfl (lv_at hl 1 rfl) ?_
      refine lv_sipush (v := zI 300) hx hb rdX8_signAt_13 (by decide) ?_
      refine z_icmp_ge (tgt := 32) hx hb (by omega) (by omega) rdX8_signAt_16 (by decide) (fun c3 => ?_) (fun c3 => ?_)
      · refine lv_iconst (v := zI (-1)) hx hb rdX8_signAt_32 rfl ?_
        exact e_i F w hr hlocks ⟨congrArg zI (sg_n (by omega)).symm, rfl⟩ rdX8_signAt_33
      · refine lv_aload_n hx hb rdX8_signAt_19 rfl (lv_at hl 0 rfl) ?_
        refine f_8_0 F w (a := 1) rfl rtb_20 rdX8_signAt_20 ?_
        refine lv_iload_n hx hb rdX8_signAt_23 rfl (lv_at hl 1 rfl) ?_
        refine g_bald F w (a := 2) rfl (j := (Int.toNat z)) (ix_z (by omega) (by omega)) (by omega) rdX8_signAt_24 ?_
        have hs3 := sb_rg (hT.2 (Int.toNat z))
        refine r_val (v := (zI (sb (T (Int.toNat z))))) (hTc.2 (Int.toNat z) (by omega)) ?_
        refine lv_sipush (v := zI 255) hx hb rdX8_signAt_25 (by decide) ?_
        refine lv_iand hx hb rdX8_signAt_28 ?_
        refine r_val (v := (zI (((T (Int.toNat z)) : Nat) : Int))) (sb_255 (hT.2 _)) ?_
        refine lv_goto (tgt := 33) hx hb rdX8_signAt_29 (by decide) ?_
        exact e_i F w hr hlocks ⟨congrArg zI (sg_p ⟨by omega, by omega⟩).symm, rfl⟩ rdX8_signAt_33
theorem rdX8_skipBlanks_2 : decode cX8_skipBlanks 2 = .ok (.iload_n 2, 1) := dq0 kk_28 (by decide +kernel)
theorem rdX8_skipBlanks_3 : decode cX8_skipBlanks 3 = .ok (.ifCond .lt 35, 3) := dqT kk_155 (by decide +kernel)
theorem rdX8_skipBlanks_6 : decode cX8_skipBlanks 6 = .ok (.iload_n 2, 1) := dq0 kk_28 (by decide +kernel)
theorem rdX8_skipBlanks_7 : decode cX8_skipBlanks 7 = .ok (.aload_n 0, 1) := dq0 kk_42 (by decide +kernel)
theorem rdX8_skipBlanks_8 : decode cX8_skipBlanks 8 = .ok (.getfield 15, 3) := dqV kk_180 (by decide +kernel)
theorem rdX8_skipBlanks_11 : decode cX8_skipBlanks 11 = .ok (.if_icmp .ge 27, 3) := dqT kk_162 (by decide +kernel)
theorem rdX8_skipBlanks_14 : decode cX8_skipBlanks 14 = .ok (.iload_n 2, 1) := dq0 kk_28 (by decide +kernel)
theorem rdX8_skipBlanks_15 : decode cX8_skipBlanks 15 = .ok (.sipush 300, 3) := dqT kk_17 (by decide +kernel)
theorem rdX8_skipBlanks_18 : decode cX8_skipBlanks 18 = .ok (.if_icmp .ge 20, 3) := dqT kk_162 (by decide +kernel)
theorem rdX8_skipBlanks_21 : decode cX8_skipBlanks 21 = .ok (.aload_n 0, 1) := dq0 kk_42 (by decide +kernel)
theorem rdX8_skipBlanks_22 : decode cX8_skipBlanks 22 = .ok (.getfield 9, 3) := dqV kk_180 (by decide +kernel)
theorem rdX8_skipBlanks_25 : decode cX8_skipBlanks 25 = .ok (.iload_n 2, 1) := dq0 kk_28 (by decide +kernel)
theorem rdX8_skipBlanks_26 : decode cX8_skipBlanks 26 = .ok (.baload, 1) := dq0 kk_51 (by decide +kernel)
theorem rdX8_skipBlanks_27 : decode cX8_skipBlanks 27 = .ok (.bipush 32, 2) := dqS kk_16 (by decide +kernel)
theorem rdX8_skipBlanks_29 : decode cX8_skipBlanks 29 = .ok (.if_icmp .ne 9, 3) := dqT kk_160 (by decide +kernel)
theorem rdX8_skipBlanks_32 : decode cX8_skipBlanks 32 = .ok (.iinc 2 1, 3) := dqI kk_132 (by decide +kernel)
theorem rdX8_skipBlanks_35 : decode cX8_skipBlanks 35 = .ok (.goto (-33), 3) := dqT kk_167 (by decide +kernel)
set_option maxRecDepth 4000 in
theorem lp_X8_skipBlanks {p : Program} {l : Launch} {e : Env} {s : State} {m : MethodId} {args : Array Value} {below : List Frame} {meth : Method} {c : Code} {D : va_G} {B : Nat} {cy : Nat → ClassId} {H0 : Heap} {Q : State → Prop} {M : Mem} {R : Room} {T : Nat → Nat} {tn i : Nat} (F : CallFix p m c cX8_skipBlanks 3 s args TB RX8) (hR1 : 0 ≤ R.frames) (hR2 : 0 ≤ R.locals) (hT : okT T tn) (hTc : isTc M T tn) (kk : ∀ (k : Nat) (H : Heap) (locs : List Loc) (ls : Array Slot), (k = sk T tn i) → Wd D B cy s H0 M H locs → lv_has ls 3 [(2, .int (zI (k : Int))), (0, .ref (B + 1)), (1, .int (zI (i : Int)))] → W p l e R s m args below meth c H locs 0 0 Q (F0 m 38 ls [])) : ∀ (f : Nat) (k : Nat), (k ≤ tn) → (sk T tn k = sk T tn i) → (tn ≤ k + f) → ∀ (H : Heap) (locs : List Loc) (ls : Array Slot), Wd D B cy s H0 M H locs → lv_has ls 3 [(2, .int (zI (k : Int))), (0, .ref (B + 1)), (1, .int (zI (i : Int)))] → W p l e R s m args below meth c H locs 0 0 Q (F0 m 2 ls []) := by
  have hx := F.1
  have hb := F.2.1
  have hN := hT.1
  intro f
  induction f with
  | zero =>
    intro k i0 i1 hf H locs ls w hl
    refine lv_iload_n hx hb rdX8_skipBlanks_2 rfl (lv_at hl 0 rfl) ?_
    refine z_if_lt (tgt := 38) hx hb (by omega) rdX8_skipBlanks_3 (by decide) (fun c1 => False.elim (by omega)) (fun c1 => ?_)
    refine lv_iload_n hx hb rdX8_skipBlanks_6 rfl (lv_at hl 0 rfl) ?_
    refine lv_aload_n hx hb rdX8_skipBlanks_7 rfl (lv_at hl 1 rfl) ?_
    refine f_8_1 F w (a := 1) rfl rtb_19 rdX8_skipBlanks_8 ?_
    refine r_val (v := (zI (tn : Int))) (hTc.1) ?_
    refine z_icmp_ge (tgt := 38) hx hb (by omega) (by omega) rdX8_skipBlanks_11 (by decide) (fun c2 => ?_) (fun c2 => False.elim (by omega))
    exact kk k _ _ ls ((sk_e (by omega)).symm.trans i1) w (lv_sub hl [0, 1, 2] rfl)
  | succ f ih =>
    intro k i0 i1 hf H locs ls w hl
    refine lv_iload_n hx hb rdX8_skipBlanks_2 rfl (lv_at hl 0 rfl) ?_
    refine z_if_lt (tgt := 38) hx hb (by omega) rdX8_skipBlanks_3 (by decide) (fun c1 => False.elim (by omega)) (fun c1 => ?_)
    refine lv_iload_n hx hb rdX8_skipBlanks_6 rfl (lv_at hl 0 rfl) ?_
    refine lv_aload_n hx hb rdX8_skipBlanks_7 rfl (lv_at hl 1 rfl) ?_
    refine f_8_1 F w (a := 1) rfl rtb_19 rdX8_skipBlanks_8 ?_
    refine r_val (v := (zI (tn : Int))) (hTc.1) ?_
    refine z_icmp_ge (tgt := 38) hx hb (by omega) (by omega) rdX8_skipBlanks_11 (by decide) (fun c2 => ?_) (fun c2 => ?_)
    · exact kk k _ _ ls ((sk_e (by omega)).symm.trans i1) w (lv_sub hl [0, 1, 2] rfl)
    · refine lv_iload_n hx hb rdX8_skipBlanks_14 rfl (lv_at hl 0 rfl) ?_
      refine lv_sipush (v := zI 300) hx hb rdX8_skipBlanks_15 (by decide) ?_
      refine z_icmp_ge (tgt := 38) hx hb (by omega) (by omega) rdX8_skipBlanks_18 (by decide) (fun c3 => ?_) (fun c3 => ?_)
      · exact kk k _ _ ls ((sk_e (by omega)).symm.trans i1) w (lv_sub hl [0, 1, 2] rfl)
      · refine lv_aload_n hx hb rdX8_skipBlanks_21 rfl (lv_at hl 1 rfl) ?_
        refine f_8_0 F w (a := 1) rfl rtb_20 rdX8_skipBlanks_22 ?_
        refine lv_iload_n hx hb rdX8_skipBlanks_25 rfl (lv_at hl 0 rfl) ?_
        refine g_bald F w (a := 2) rfl (j := k) (ix_n (by omega)) (by omega) rdX8_skipBlanks_26 ?_
        have hs3 := sb_rg (hT.2 k)
        refine r_val (v := (zI (sb (T k)))) (hTc.2 k (by omega)) ?_
        refine lv_bipush (v := zI 32) hx hb rdX8_skipBlanks_27 (by decide) ?_
        refine z_icmp_ne (tgt := 38) hx hb (by omega) (by omega) rdX8_skipBlanks_29 (by decide) (fun c4 => ?_) (fun c4 => ?_)
        · exact kk k _ _ ls ((sk_e (by omega)).symm.trans i1) w (lv_sub hl [0, 1, 2] rfl)
        · refine z_iinc (v := (((k + 1) : Nat) : Int)) (lv' := [(2, .int (zI (((k + 1) : Nat) : Int))), (0, .ref (B + 1)), (1, .int (zI (i : Int)))]) hx hb rdX8_skipBlanks_32 hl (k := 0) rfl (by omega) (by decide) rfl (fun ls hl => ?_)
          refine lv_goto (tgt := 2) hx hb rdX8_skipBlanks_35 (by decide) ?_
          exact ih (k + 1) (by omega) ((sk_s (by omega) (by omega)).symm.trans i1) (by omega) _ _ ls w (lv_sub hl [0, 1, 2] rfl)
theorem rdX8_skipBlanks_0 : decode cX8_skipBlanks 0 = .ok (.iload_n 1, 1) := dq0 kk_27 (by decide +kernel)
theorem rdX8_skipBlanks_1 : decode cX8_skipBlanks 1 = .ok (.istore_n 2, 1) := dq0 kk_61 (by decide +kernel)
theorem rdX8_skipBlanks_38 : decode cX8_skipBlanks 38 = .ok (.iload_n 2, 1) := dq0 kk_28 (by decide +kernel)
theorem rdX8_skipBlanks_39 : decode cX8_skipBlanks 39 = .ok (.ireturn, 1) := dq0 kk_172 (by decide +kernel)
set_option maxRecDepth 4000 in
theorem s_X8_skipBlanks {l : Launch} {D : va_G} {B : Nat} {cy : Nat → ClassId} {M : Mem} {T : Nat → Nat} {tn : Nat} (hT : okT T tn) (hTc : isTc M T tn) {i : Nat} (hi : i ≤ tn) : Ci l D B cy yX8_skipBlanks cX8_skipBlanks 3 (some .int) 0 0 [.ref (B + 1), .int (zI (i : Int))] M (fun r M1 => r = zI ((sk T tn i : Nat) : Int) ∧ M1 = M) := by
  refine s_any (by decide) (Nat.le_of_ble_eq_true rfl) ?_
  intro p e s m below meth c ls F hr hlocks w hl
  have F : CallFix p m c cX8_skipBlanks 3 s _ TB RX8 := F
  have hx := F.1
  have hb := F.2.1
  have hl : lv_has ls 3 [(0, .ref (B + 1)), (1, .int (zI (i : Int)))] := hl
  have hN := hT.1
  refine lv_iload_n hx hb rdX8_skipBlanks_0 rfl (lv_at hl 1 rfl) ?_
  refine lv_istore_n (lv' := [(2, .int (zI (i : Int))), (0, .ref (B + 1)), (1, .int (zI (i : Int)))]) hx hb rdX8_skipBlanks_1 rfl hl (by decide) rfl (fun ls hl => ?_)
  refine lp_X8_skipBlanks  F (Nat.le_of_ble_eq_true rfl) (Nat.le_of_ble_eq_true rfl) hT hTc (fun k H locs ls x0 w hl => ?_) tn i (by omega) rfl (by omega) _ _ ls w (lv_sub hl [0, 1, 2] rfl)
  subst x0
  refine lv_iload_n hx hb rdX8_skipBlanks_38 rfl (lv_at hl 0 rfl) ?_
  exact e_i F w hr hlocks ⟨rfl, rfl⟩ rdX8_skipBlanks_39
theorem rdX5_needsBlank_0 : decode cX5_needsBlank 0 = .ok (.iload_n 0, 1) := dq0 kk_26 (by decide +kernel)
theorem rdX5_needsBlank_1 : decode cX5_needsBlank 1 = .ok (.bipush 97, 2) := dqS kk_16 (by decide +kernel)
theorem rdX5_needsBlank_3 : decode cX5_needsBlank 3 = .ok (.if_icmp .lt 9, 3) := dqT kk_161 (by decide +kernel)
theorem rdX5_needsBlank_12 : decode cX5_needsBlank 12 = .ok (.iload_n 0, 1) := dq0 kk_26 (by decide +kernel)
theorem rdX5_needsBlank_13 : decode cX5_needsBlank 13 = .ok (.bipush 48, 2) := dqS kk_16 (by decide +kernel)
theorem rdX5_needsBlank_15 : decode cX5_needsBlank 15 = .ok (.if_icmp .lt 13, 3) := dqT kk_161 (by decide +kernel)
theorem rdX5_needsBlank_28 : decode cX5_needsBlank 28 = .ok (.iconst 0, 1) := dq0 kk_3 (by decide +kernel)
theorem rdX5_needsBlank_29 : decode cX5_needsBlank 29 = .ok (.ireturn, 1) := dq0 kk_172 (by decide +kernel)
theorem rdX5_needsBlank_18 : decode cX5_needsBlank 18 = .ok (.iload_n 0, 1) := dq0 kk_26 (by decide +kernel)
theorem rdX5_needsBlank_19 : decode cX5_needsBlank 19 = .ok (.bipush 57, 2) := dqS kk_16 (by decide +kernel)
theorem rdX5_needsBlank_21 : decode cX5_needsBlank 21 = .ok (.if_icmp .gt 7, 3) := dqT kk_163 (by decide +kernel)
theorem rdX5_needsBlank_24 : decode cX5_needsBlank 24 = .ok (.iconst 1, 1) := dq0 kk_4 (by decide +kernel)
theorem rdX5_needsBlank_25 : decode cX5_needsBlank 25 = .ok (.goto 4, 3) := dqT kk_167 (by decide +kernel)
theorem rdX5_needsBlank_6 : decode cX5_needsBlank 6 = .ok (.iload_n 0, 1) := dq0 kk_26 (by decide +kernel)
theorem rdX5_needsBlank_7 : decode cX5_needsBlank 7 = .ok (.bipush 122, 2) := dqS kk_16 (by decide +kernel)
theorem rdX5_needsBlank_9 : decode cX5_needsBlank 9 = .ok (.if_icmp .le 15, 3) := dqT kk_164 (by decide +kernel)
set_option maxRecDepth 4000 in
theorem s_X5_needsBlank {l : Launch} {D : va_G} {B : Nat} {cy : Nat → ClassId} {M : Mem} {z : Int} (hz : rg z) : Ci l D B cy yX5_needsBlank cX5_needsBlank 1 (some .boolean) 0 0 [.int (zI z)] M (fun r M1 => (((97 ≤ z ∧ z ≤ 122) ∨ (48 ≤ z ∧ z ≤ 57)) ∧ r = zI 1 ∨ ¬ ((97 ≤ z ∧ z ≤ 122) ∨ (48 ≤ z ∧ z ≤ 57)) ∧ r = zI 0) ∧ M1 = M) := by
  refine s_any (by decide) (Nat.le_of_ble_eq_true rfl) ?_
  intro p e s m below meth c ls F hr hlocks w hl
  have F : CallFix p m c cX5_needsBlank 1 s _ TB RX5 := F
  have hx := F.1
  have hb := F.2.1
  have hl : lv_has ls 1 [(0, .int (zI z))] := hl
  refine lv_iload_n hx hb rdX5_needsBlank_0 rfl (lv_at hl 0 rfl) ?_
  refine lv_bipush (v := zI 97) hx hb rdX5_needsBlank_1 (by decide) ?_
  refine z_icmp_lt (tgt := 12) hx hb (by omega) (by omega) rdX5_needsBlank_3 (by decide) (fun c1 => ?_) (fun c1 => ?_)
  · refine lv_iload_n hx hb rdX5_needsBlank_12 rfl (lv_at hl 0 rfl) ?_
    refine lv_bipush (v := zI 48) hx hb rdX5_needsBlank_13 (by decide) ?_
    refine z_icmp_lt (tgt := 28) hx hb (by omega) (by omega) rdX5_needsBlank_15 (by decide) (fun c2 => ?_) (fun c2 => ?_)
    · refine lv_iconst (v := zI 0) hx hb rdX5_needsBlank_28 rfl ?_
      exact e_z F w hr hlocks (nar_z (by omega)) ⟨Or.inr ⟨by omega, rfl⟩, rfl⟩ rdX5_needsBlank_29
    · refine lv_iload_n hx hb rdX5_needsBlank_18 rfl (lv_at hl 0 rfl) ?_
      refine lv_bipush (v := zI 57) hx hb rdX5_needsBlank_19 (by decide) ?_
      refine z_icmp_gt (tgt := 28) hx hb (by omega) (by omega) rdX5_needsBlank_21 (by decide) (fun c3 => ?_) (fun c3 => ?_)
      · refine lv_iconst (v := zI 0) hx hb rdX5_needsBlank_28 rfl ?_
        exact e_z F w hr hlocks (nar_z (by omega)) ⟨Or.inr ⟨by omega, rfl⟩, rfl⟩ rdX5_needsBlank_29
      · refine lv_iconst (v := zI 1) hx hb rdX5_needsBlank_24 rfl ?_
        refine lv_goto (tgt := 29) hx hb rdX5_needsBlank_25 (by decide) ?_
        exact e_z F w hr hlocks (nar_z (by omega)) ⟨Or.inl ⟨by omega, rfl⟩, rfl⟩ rdX5_needsBlank_29
  · refine lv_iload_n hx hb rdX5_needsBlank_6 rfl (lv_at hl 0 rfl) ?_
    refine lv_bipush (v := zI 122) hx hb rdX5_needsBlank_7 (by decide) ?_
    refine z_icmp_le (tgt := 24) hx hb (by omega) (by omega) rdX5_needsBlank_9 (by decide) (fun c4 => ?_) (fun c4 => ?_)
    · refine lv_iconst (v := zI 1) hx hb rdX5_needsBlank_24 rfl ?_
      refine lv_goto (tgt := 29) hx hb rdX5_needsBlank_25 (by decide) ?_
      exact e_z F w hr hlocks (nar_z (by omega)) ⟨Or.inl ⟨by omega, rfl⟩, rfl⟩ rdX5_needsBlank_29
    · refine lv_iload_n hx hb rdX5_needsBlank_12 rfl (lv_at hl 0 rfl) ?_
      refine lv_bipush (v := zI 48) hx hb rdX5_needsBlank_13 (by decide) ?_
      refine z_icmp_lt (tgt := 28) hx hb (by omega) (by omega) rdX5_needsBlank_15 (by decide) (fun c5 => ?_) (fun c5 => ?_)
      · refine lv_iconst (v := zI 0) hx hb rdX5_needsBlank_28 rfl ?_
        exact e_z F w hr hlocks (nar_z (by omega)) ⟨Or.inr ⟨by omega, rfl⟩, rfl⟩ rdX5_needsBlank_29
      · refine lv_iload_n hx hb rdX5_needsBlank_18 rfl (lv_at hl 0 rfl) ?_
        refine lv_bipush (v := zI 57) hx hb rdX5_needsBlank_19 (by decide) ?_
        refine z_icmp_gt (tgt := 28) hx hb (by omega) (by omega) rdX5_needsBlank_21 (by decide) (fun c6 => ?_) (fun c6 => ?_)
        · refine lv_iconst (v := zI 0) hx hb rdX5_needsBlank_28 rfl ?_
          exact e_z F w hr hlocks (nar_z (by omega)) ⟨Or.inr ⟨by omega, rfl⟩, rfl⟩ rdX5_needsBlank_29
        · refine lv_iconst (v := zI 1) hx hb rdX5_needsBlank_24 rfl ?_
          refine lv_goto (tgt := 29) hx hb rdX5_needsBlank_25 (by decide) ?_
          exact e_z F w hr hlocks (nar_z (by omega)) ⟨Or.inl ⟨by omega, rfl⟩, rfl⟩ rdX5_needsBlank_29
theorem rdX11_isLetter_0 : decode cX11_isLetter 0 = .ok (.iload_n 0, 1) := dq0 kk_26 (by decide +kernel)
theorem rdX11_isLetter_1 : decode cX11_isLetter 1 = .ok (.bipush 97, 2) := dqS kk_16 (by decide +kernel)
theorem rdX11_isLetter_3 : decode cX11_isLetter 3 = .ok (.if_icmp .lt 13, 3) := dqT kk_161 (by decide +kernel)
theorem rdX11_isLetter_16 : decode cX11_isLetter 16 = .ok (.iconst 0, 1) := dq0 kk_3 (by decide +kernel)
theorem rdX11_isLetter_17 : decode cX11_isLetter 17 = .ok (.ireturn, 1) := dq0 kk_172 (by decide +kernel)
theorem rdX11_isLetter_6 : decode cX11_isLetter 6 = .ok (.iload_n 0, 1) := dq0 kk_26 (by decide +kernel)
theorem rdX11_isLetter_7 : decode cX11_isLetter 7 = .ok (.bipush 122, 2) := dqS kk_16 (by decide +kernel)
theorem rdX11_isLetter_9 : decode cX11_isLetter 9 = .ok (.if_icmp .gt 7, 3) := dqT kk_163 (by decide +kernel)
theorem rdX11_isLetter_12 : decode cX11_isLetter 12 = .ok (.iconst 1, 1) := dq0 kk_4 (by decide +kernel)
theorem rdX11_isLetter_13 : decode cX11_isLetter 13 = .ok (.goto 4, 3) := dqT kk_167 (by decide +kernel)
set_option maxRecDepth 4000 in
theorem s_X11_isLetter {l : Launch} {D : va_G} {B : Nat} {cy : Nat → ClassId} {M : Mem} {z : Int} (hz : rg z) : Ci l D B cy yX11_isLetter cX11_isLetter 1 (some .boolean) 0 0 [.int (zI z)] M (fun r M1 => ((97 ≤ z ∧ z ≤ 122) ∧ r = zI 1 ∨ ¬ (97 ≤ z ∧ z ≤ 122) ∧ r = zI 0) ∧ M1 = M) := by
  refine s_any (by decide) (Nat.le_of_ble_eq_true rfl) ?_
  intro p e s m below meth c ls F hr hlocks w hl
  have F : CallFix p m c cX11_isLetter 1 s _ TB RX11 := F
  have hx := F.1
  have hb := F.2.1
  have hl : lv_has ls 1 [(0, .int (zI z))] := hl
  refine lv_iload_n hx hb rdX11_isLetter_0 rfl (lv_at hl 0 rfl) ?_
  refine lv_bipush (v := zI 97) hx hb rdX11_isLetter_1 (by decide) ?_
  refine z_icmp_lt (tgt := 16) hx hb (by omega) (by omega) rdX11_isLetter_3 (by decide) (fun c1 => ?_) (fun c1 => ?_)
  · refine lv_iconst (v := zI 0) hx hb rdX11_isLetter_16 rfl ?_
    exact e_z F w hr hlocks (nar_z (by omega)) ⟨Or.inr ⟨by omega, rfl⟩, rfl⟩ rdX11_isLetter_17
  · refine lv_iload_n hx hb rdX11_isLetter_6 rfl (lv_at hl 0 rfl) ?_
    refine lv_bipush (v := zI 122) hx hb rdX11_isLetter_7 (by decide) ?_
    refine z_icmp_gt (tgt := 16) hx hb (by omega) (by omega) rdX11_isLetter_9 (by decide) (fun c2 => ?_) (fun c2 => ?_)
    · refine lv_iconst (v := zI 0) hx hb rdX11_isLetter_16 rfl ?_
      exact e_z F w hr hlocks (nar_z (by omega)) ⟨Or.inr ⟨by omega, rfl⟩, rfl⟩ rdX11_isLetter_17
    · refine lv_iconst (v := zI 1) hx hb rdX11_isLetter_12 rfl ?_
      refine lv_goto (tgt := 17) hx hb rdX11_isLetter_13 (by decide) ?_
      exact e_z F w hr hlocks (nar_z (by omega)) ⟨Or.inl ⟨by omega, rfl⟩, rfl⟩ rdX11_isLetter_17
theorem rdX5_mayHaveIf_0 : decode cX5_mayHaveIf 0 = .ok (.iload_n 0, 1) := dq0 kk_26 (by decide +kernel)
theorem rdX5_mayHaveIf_1 : decode cX5_mayHaveIf 1 = .ok (.ifCond .eq 19, 3) := dqT kk_153 (by decide +kernel)
theorem rdX5_mayHaveIf_20 : decode cX5_mayHaveIf 20 = .ok (.iconst 0, 1) := dq0 kk_3 (by decide +kernel)
theorem rdX5_mayHaveIf_21 : decode cX5_mayHaveIf 21 = .ok (.ireturn, 1) := dq0 kk_172 (by decide +kernel)
theorem rdX5_mayHaveIf_4 : decode cX5_mayHaveIf 4 = .ok (.iload_n 0, 1) := dq0 kk_26 (by decide +kernel)
theorem rdX5_mayHaveIf_5 : decode cX5_mayHaveIf 5 = .ok (.bipush 8, 2) := dqS kk_16 (by decide +kernel)
theorem rdX5_mayHaveIf_7 : decode cX5_mayHaveIf 7 = .ok (.if_icmp .eq 13, 3) := dqT kk_159 (by decide +kernel)
theorem rdX5_mayHaveIf_10 : decode cX5_mayHaveIf 10 = .ok (.iload_n 0, 1) := dq0 kk_26 (by decide +kernel)
theorem rdX5_mayHaveIf_11 : decode cX5_mayHaveIf 11 = .ok (.bipush 9, 2) := dqS kk_16 (by decide +kernel)
theorem rdX5_mayHaveIf_13 : decode cX5_mayHaveIf 13 = .ok (.if_icmp .eq 7, 3) := dqT kk_159 (by decide +kernel)
theorem rdX5_mayHaveIf_16 : decode cX5_mayHaveIf 16 = .ok (.iconst 1, 1) := dq0 kk_4 (by decide +kernel)
theorem rdX5_mayHaveIf_17 : decode cX5_mayHaveIf 17 = .ok (.goto 4, 3) := dqT kk_167 (by decide +kernel)
set_option maxRecDepth 4000 in
theorem s_X5_mayHaveIf {l : Launch} {D : va_G} {B : Nat} {cy : Nat → ClassId} {M : Mem} {z : Int} (hz : rg z) : Ci l D B cy yX5_mayHaveIf cX5_mayHaveIf 1 (some .boolean) 0 0 [.int (zI z)] M (fun r M1 => ((¬ (z = 0 ∨ z = 8 ∨ z = 9)) ∧ r = zI 1 ∨ ¬ (¬ (z = 0 ∨ z = 8 ∨ z = 9)) ∧ r = zI 0) ∧ M1 = M) := by
  refine s_any (by decide) (Nat.le_of_ble_eq_true rfl) ?_
  intro p e s m below meth c ls F hr hlocks w hl
  have F : CallFix p m c cX5_mayHaveIf 1 s _ TB RX5 := F
  have hx := F.1
  have hb := F.2.1
  have hl : lv_has ls 1 [(0, .int (zI z))] := hl
  refine lv_iload_n hx hb rdX5_mayHaveIf_0 rfl (lv_at hl 0 rfl) ?_
  refine z_if_eq (tgt := 20) hx hb (by omega) rdX5_mayHaveIf_1 (by decide) (fun c1 => ?_) (fun c1 => ?_)
  · refine lv_iconst (v := zI 0) hx hb rdX5_mayHaveIf_20 rfl ?_
    exact e_z F w hr hlocks (nar_z (by omega)) ⟨Or.inr ⟨by omega, rfl⟩, rfl⟩ rdX5_mayHaveIf_21
  · refine lv_iload_n hx hb rdX5_mayHaveIf_4 rfl (lv_at hl 0 rfl) ?_
    refine lv_bipush (v := zI 8) hx hb rdX5_mayHaveIf_5 (by decide) ?_
    refine z_icmp_eq (tgt := 20) hx hb (by omega) (by omega) rdX5_mayHaveIf_7 (by decide) (fun c2 => ?_) (fun c2 => ?_)
    · refine lv_iconst (v := zI 0) hx hb rdX5_mayHaveIf_20 rfl ?_
      exact e_z F w hr hlocks (nar_z (by omega)) ⟨Or.inr ⟨by omega, rfl⟩, rfl⟩ rdX5_mayHaveIf_21
    · refine lv_iload_n hx hb rdX5_mayHaveIf_10 rfl (lv_at hl 0 rfl) ?_
      refine lv_bipush (v := zI 9) hx hb rdX5_mayHaveIf_11 (by decide) ?_
      refine z_icmp_eq (tgt := 20) hx hb (by omega) (by omega) rdX5_mayHaveIf_13 (by decide) (fun c3 => ?_) (fun c3 => ?_)
      · refine lv_iconst (v := zI 0) hx hb rdX5_mayHaveIf_20 rfl ?_
        exact e_z F w hr hlocks (nar_z (by omega)) ⟨Or.inr ⟨by omega, rfl⟩, rfl⟩ rdX5_mayHaveIf_21
      · refine lv_iconst (v := zI 1) hx hb rdX5_mayHaveIf_16 rfl ?_
        refine lv_goto (tgt := 21) hx hb rdX5_mayHaveIf_17 (by decide) ?_
        exact e_z F w hr hlocks (nar_z (by omega)) ⟨Or.inl ⟨by omega, rfl⟩, rfl⟩ rdX5_mayHaveIf_21
theorem rdX11_digitOf_0 : decode cX11_digitOf 0 = .ok (.iload_n 0, 1) := dq0 kk_26 (by decide +kernel)
theorem rdX11_digitOf_1 : decode cX11_digitOf 1 = .ok (.bipush 48, 2) := dqS kk_16 (by decide +kernel)
theorem rdX11_digitOf_3 : decode cX11_digitOf 3 = .ok (.if_icmp .lt 16, 3) := dqT kk_161 (by decide +kernel)
theorem rdX11_digitOf_19 : decode cX11_digitOf 19 = .ok (.iconst (-1), 1) := dq0 kk_2 (by decide +kernel)
theorem rdX11_digitOf_20 : decode cX11_digitOf 20 = .ok (.ireturn, 1) := dq0 kk_172 (by decide +kernel)
theorem rdX11_digitOf_6 : decode cX11_digitOf 6 = .ok (.iload_n 0, 1) := dq0 kk_26 (by decide +kernel)
theorem rdX11_digitOf_7 : decode cX11_digitOf 7 = .ok (.bipush 57, 2) := dqS kk_16 (by decide +kernel)
theorem rdX11_digitOf_9 : decode cX11_digitOf 9 = .ok (.if_icmp .gt 10, 3) := dqT kk_163 (by decide +kernel)
theorem rdX11_digitOf_12 : decode cX11_digitOf 12 = .ok (.iload_n 0, 1) := dq0 kk_26 (by decide +kernel)
theorem rdX11_digitOf_13 : decode cX11_digitOf 13 = .ok (.bipush 48, 2) := dqS kk_16 (by decide +kernel)
theorem rdX11_digitOf_15 : decode cX11_digitOf 15 = .ok (.isub, 1) := dq0 kk_100 (by decide +kernel)
theorem rdX11_digitOf_16 : decode cX11_digitOf 16 = .ok (.goto 4, 3) := dqT kk_167 (by decide +kernel)
set_option maxRecDepth 4000 in
theorem s_X11_digitOf {l : Launch} {D : va_G} {B : Nat} {cy : Nat → ClassId} {M : Mem} {z : Int} (hz : rg z) : Ci l D B cy yX11_digitOf cX11_digitOf 1 (some .int) 0 0 [.int (zI z)] M (fun r M1 => ((48 ≤ z ∧ z ≤ 57) ∧ r = zI (z - 48) ∨ ¬ (48 ≤ z ∧ z ≤ 57) ∧ r = zI (-1)) ∧ M1 = M) := by
  refine s_any (by decide) (Nat.le_of_ble_eq_true rfl) ?_
  intro p e s m below meth c ls F hr hlocks w hl
  have F : CallFix p m c cX11_digitOf 1 s _ TB RX11 := F
  have hx := F.1
  have hb := F.2.1
  have hl : lv_has ls 1 [(0, .int (zI z))] := hl
  refine lv_iload_n hx hb rdX11_digitOf_0 rfl (lv_at hl 0 rfl) ?_
  refine lv_bipush (v := zI 48) hx hb rdX11_digitOf_1 (by decide) ?_
  refine z_icmp_lt (tgt := 19) hx hb (by omega) (by omega) rdX11_digitOf_3 (by decide) (fun c1 => ?_) (fun c1 => ?_)
  · refine lv_iconst (v := zI (-1)) hx hb rdX11_digitOf_19 rfl ?_
    exact e_i F w hr hlocks ⟨Or.inr ⟨by omega, rfl⟩, rfl⟩ rdX11_digitOf_20
  · refine lv_iload_n hx hb rdX11_digitOf_6 rfl (lv_at hl 0 rfl) ?_
    refine lv_bipush (v := zI 57) hx hb rdX11_digitOf_7 (by decide) ?_
    refine z_icmp_gt (tgt := 19) hx hb (by omega) (by omega) rdX11_digitOf_9 (by decide) (fun c2 => ?_) (fun c2 => ?_)
    · refine lv_iconst (v := zI (-1)) hx hb rdX11_digitOf_19 rfl ?_
      exact e_i F w hr hlocks ⟨Or.inr ⟨by omega, rfl⟩, rfl⟩ rdX11_digitOf_20
    · refine lv_iload_n hx hb rdX11_digitOf_12 rfl (lv_at hl 0 rfl) ?_
      refine lv_bipush (v := zI 48) hx hb rdX11_digitOf_13 (by decide) ?_
      refine z_isub (z := (z - 48)) hx hb rdX11_digitOf_15 (by omega) ?_
      refine lv_goto (tgt := 20) hx hb rdX11_digitOf_16 (by decide) ?_
      exact e_i F w hr hlocks ⟨Or.inl ⟨by omega, rfl⟩, rfl⟩ rdX11_digitOf_20
theorem rdX5_step_25 : decode cX5_step 25 = .ok (.aload_n 0, 1) := dq0 kk_42 (by decide +kernel)
theorem rdX5_step_26 : decode cX5_step 26 = .ok (.getfield 24, 3) := dqV kk_180 (by decide +kernel)
theorem rtb_21 : Cond.fieldLink "ToneLines$RuleReader" 24 "ToneLines$RuleReader" "end" "I" ∈ TB := tbm (tc1 (List.mem_of_getElem? (i := 88) rfl)) rfl
theorem rdX5_step_29 : decode cX5_step 29 = .ok (.aload_n 0, 1) := dq0 kk_42 (by decide +kernel)
theorem rdX5_step_30 : decode cX5_step 30 = .ok (.getfield 31, 3) := dqV kk_180 (by decide +kernel)
theorem rtb_22 : Cond.fieldLink "ToneLines$RuleReader" 31 "ToneLines$RuleReader" "tape" "LToneLines$Tape;" ∈ TB := tbm (tc1 (List.mem_of_getElem? (i := 82) rfl)) rfl
theorem rdX5_step_33 : decode cX5_step 33 = .ok (.getfield 39, 3) := dqV kk_180 (by decide +kernel)
theorem rtb_23 : Cond.fieldLink "ToneLines$RuleReader" 39 "ToneLines$Tape" "size" "I" ∈ TB := tbm (tc1 (List.mem_of_getElem? (i := 40) rfl)) rfl
theorem rdX5_step_36 : decode cX5_step 36 = .ok (.if_icmp .ge 33, 3) := dqT kk_162 (by decide +kernel)
theorem rdX5_step_39 : decode cX5_step 39 = .ok (.aload_n 0, 1) := dq0 kk_42 (by decide +kernel)
theorem rdX5_step_40 : decode cX5_step 40 = .ok (.getfield 31, 3) := dqV kk_180 (by decide +kernel)
theorem rdX5_step_43 : decode cX5_step 43 = .ok (.aload_n 0, 1) := dq0 kk_42 (by decide +kernel)
theorem rdX5_step_44 : decode cX5_step 44 = .ok (.getfield 24, 3) := dqV kk_180 (by decide +kernel)
theorem rdX5_step_47 : decode cX5_step 47 = .ok (.invokevirtual 52, 3) := dqV kk_182 (by decide +kernel)
theorem rtk_X8_signAt : Cond.code yX8_signAt cX8_signAt 2 (some .int) ∈ TB := tbm (tc2 (List.mem_of_getElem? (i := 123) rfl)) rfl
theorem rgc_X8_signAt : GoodIn TB (cw yX8_signAt cX8_signAt 2 (some .int)) := goodIn_c2 rtk_X8_signAt
theorem rtb_24 : Cond.methodLink "ToneLines$RuleReader" 52 yX8_signAt ∈ TB := tbm (tc3 (List.mem_of_getElem? (i := 46) rfl)) rfl
theorem rtb_25 : Cond.instanceMethod yX8_signAt ∈ TB := tbm (tc2 (List.mem_of_getElem? (i := 121) rfl)) rfl
theorem rtb_26 : Cond.selects "ToneLines$Tape" yX8_signAt yX8_signAt ∈ TB := tbm (tc2 (List.mem_of_getElem? (i := 122) rfl)) rfl
theorem rtb_27 : Cond.initialized "ToneLines$Tape" ∈ TB := tbm (tc1 (List.mem_of_getElem? (i := 2) rfl)) rfl
theorem rgv_X5_52 : GoodIn TB (wsV RX5 52 RX8 yX8_signAt (cw yX8_signAt cX8_signAt 2 (some .int))) := goodIn_4 rtb_24 rtb_25 rtb_26 rtb_27 rgc_X8_signAt
theorem rhv_X8_signAt : yX8_signAt.cls = RX8 ∧ yX8_signAt.cls ≠ "java/lang/invoke/MethodHandle" ∧ yX8_signAt.cls ≠ "java/lang/invoke/VarHandle" ∧ (parseMethodDescriptor yX8_signAt.desc).map (fun d => d.parameters.length) = some 1 := by decide +kernel
theorem rdX5_step_50 : decode cX5_step 50 = .ok (.invokestatic 55, 3) := dqV kk_184 (by decide +kernel)
theorem rtk_X11_isLetter : Cond.code yX11_isLetter cX11_isLetter 1 (some .boolean) ∈ TB := tbm (tc3 (List.mem_of_getElem? (i := 49) rfl)) rfl
theorem rgc_X11_isLetter : GoodIn TB (cw yX11_isLetter cX11_isLetter 1 (some .boolean)) := goodIn_c2 rtk_X11_isLetter
theorem rhs_X11_isLetter : yX11_isLetter.cls ≠ "java/lang/invoke/MethodHandle" ∧ yX11_isLetter.cls ≠ "java/lang/invoke/VarHandle" ∧ (parseMethodDescriptor yX11_isLetter.desc).map (fun d => d.parameters.length) = some 1 := by decide +kernel
theorem rtb_28 : Cond.initialized "ToneLines" ∈ TB := tbm (tc1 (List.mem_of_getElem? (i := 1) rfl)) rfl
theorem rtb_29 : Cond.static yX11_isLetter ∈ TB := tbm (tc3 (List.mem_of_getElem? (i := 48) rfl)) rfl
theorem rdX5_step_53 : decode cX5_step 53 = .ok (.ifCond .eq 16, 3) := dqT kk_153 (by decide +kernel)
theorem rdX5_step_56 : decode cX5_step 56 = .ok (.aload_n 0, 1) := dq0 kk_42 (by decide +kernel)
theorem rdX5_step_57 : decode cX5_step 57 = .ok (.dup, 1) := dq0 kk_89 (by decide +kernel)
theorem rdX5_step_58 : decode cX5_step 58 = .ok (.getfield 24, 3) := dqV kk_180 (by decide +kernel)
theorem rdX5_step_61 : decode cX5_step 61 = .ok (.iconst 1, 1) := dq0 kk_4 (by decide +kernel)
theorem rdX5_step_62 : decode cX5_step 62 = .ok (.iadd, 1) := dq0 kk_96 (by decide +kernel)
theorem rdX5_step_63 : decode cX5_step 63 = .ok (.putfield 24, 3) := dqV kk_181 (by decide +kernel)
theorem rdX5_step_66 : decode cX5_step 66 = .ok (.goto (-41), 3) := dqT kk_167 (by decide +kernel)
set_option maxRecDepth 4000 in
theorem lp_X5_step {p : Program} {l : Launch} {e : Env} {s : State} {m : MethodId} {args : Array Value} {below : List Frame} {meth : Method} {c : Code} {D : va_G} {B : Nat} {cy : Nat → ClassId} {H0 : Heap} {Q : State → Prop} {M : Mem} {R : Room} {T : Nat → Nat} {tn E : Nat} (F : CallFix p m c cX5_step 2 s args TB RX5) (hR1 : 1 ≤ R.frames) (hR2 : 21 ≤ R.locals) (hT : okT T tn) (hE : E ≤ tn) (kk : ∀ (k : Nat) (Nm : Mem) (H : Heap) (locs : List Loc) (ls : Array Slot), (k = lx T tn (sk T tn E)) → (isTc Nm T tn) → (Nm.1 4 3 = zI ((sk T tn E : Nat) : Int)) → (Nm.1 4 4 = zI (k : Int)) → (FrQ Nm M) → (sk T tn E ≤ k) → (k ≤ tn) → Wd D B cy s H0 Nm H locs → lv_has ls 2 [(0, .ref (B + 4)), (1, .int (zI (E : Int)))] → W p l e R s m args below meth c H locs 0 0 Q (F0 m 69 ls [])) : ∀ (f : Nat) (k : Nat) (Nm : Mem), (sk T tn E ≤ k) → (k ≤ tn) → (lx T tn k = lx T tn (sk T tn E)) → (isTc Nm T tn) → (Nm.1 4 3 = zI ((sk T tn E : Nat) : Int)) → (Nm.1 4 4 = zI (k : Int)) → (FrQ Nm M) → (tn ≤ k + f) → ∀ (H : Heap) (locs : List Loc) (ls : Array Slot), Wd D B cy s H0 Nm H locs → lv_has ls 2 [(0, .ref (B + 4)), (1, .int (zI (E : Int)))] → W p l e R s m args below meth c H locs 0 0 Q (F0 m 25 ls []) := by
  have hx := F.1
  have hb := F.2.1
  have hN := hT.1
  have hsk := sk_le (T := T) hE
  intro f
  induction f with
  | zero =>
    intro k Nm i0 i1 i2 i3 i4 i5 i6 hf H locs ls w hl
    refine lv_aload_n hx hb rdX5_step_25 rfl (lv_at hl 0 rfl) ?_
    refine f_5_4 F w (a := 4) rfl rtb_21 rdX5_step_26 ?_
    refine r_val (v := (zI (k : Int))) (i5) ?_
    refine lv_aload_n hx hb rdX5_step_29 rfl (lv_at hl 0 rfl) ?_
    refine f_5_0 F w (a := 4) rfl rtb_22 rdX5_step_30 ?_
    refine f_8_1 F w (a := 1) rfl rtb_23 rdX5_step_33 ?_
    refine r_val (v := (zI (tn : Int))) (i3.1) ?_
    refine z_icmp_ge (tgt := 69) hx hb (by omega) (by omega) rdX5_step_36 (by decide) (fun c1 => ?_) (fun c1 => False.elim (by omega))
    exact kk k Nm _ _ ls ((lx_e (by omega)).symm.trans i2) i3 i4 i5 i6 i0 i1 w (lv_sub hl [0, 1] rfl)
  | succ f ih =>
    intro k Nm i0 i1 i2 i3 i4 i5 i6 hf H locs ls w hl
    refine lv_aload_n hx hb rdX5_step_25 rfl (lv_at hl 0 rfl) ?_
    refine f_5_4 F w (a := 4) rfl rtb_21 rdX5_step_26 ?_
    refine r_val (v := (zI (k : Int))) (i5) ?_
    refine lv_aload_n hx hb rdX5_step_29 rfl (lv_at hl 0 rfl) ?_
    refine f_5_0 F w (a := 4) rfl rtb_22 rdX5_step_30 ?_
    refine f_8_1 F w (a := 1) rfl rtb_23 rdX5_step_33 ?_
    refine r_val (v := (zI (tn : Int))) (i3.1) ?_
    refine z_icmp_ge (tgt := 69) hx hb (by omega) (by omega) rdX5_step_36 (by decide) (fun c1 => ?_) (fun c1 => ?_)
    · exact kk k Nm _ _ ls ((lx_e (by omega)).symm.trans i2) i3 i4 i5 i6 i0 i1 w (lv_sub hl [0, 1] rfl)
    · refine lv_aload_n hx hb rdX5_step_39 rfl (lv_at hl 0 rfl) ?_
      refine f_5_0 F w (a := 4) rfl rtb_22 rdX5_step_40 ?_
      refine lv_aload_n hx hb rdX5_step_43 rfl (lv_at hl 0 rfl) ?_
      refine f_5_4 F w (a := 4) rfl rtb_21 rdX5_step_44 ?_
      refine r_val (v := (zI (k : Int))) (i5) ?_
      refine x_Vi F w (As := [.int (zI (k : Int))]) (rest := []) (a := 1) (kd_lt (a := 1) (show kd 1 = (8, 0, 0) from rfl) (by decide)) (sh_8 rfl _ _) rfl (s_X8_signAt hT i3 (z := (k : Int)) (by omega)) rgv_X5_52 rhv_X8_signAt ⟨(by omega), (by omega)⟩ hl.1 rfl (Nat.le_of_ble_eq_true rfl) ⟨Nat.zero_le _, Nat.zero_le _⟩ rdX5_step_47 (fun H locs w => ?_)
      have hg1 := sg_rg hT (k : Int)
      have hh1 := sg_c (T := T) (N := tn) k
      refine k_Ni F w (As := [.int (zI (sg T tn (k : Int)))]) (rest := []) (s_X11_isLetter (z := (sg T tn (k : Int))) (by omega)) rgc_X11_isLetter rtb_28 rtb_29 (by decide) rhs_X11_isLetter ⟨(by omega), (by omega)⟩ hl.1 rfl (Nat.le_of_ble_eq_true rfl) ⟨Nat.zero_le _, Nat.zero_le _⟩ rdX5_step_50 (fun r Ma4 H locs hp w => ?_)
      rcases hp with ⟨⟨hb3, rfl⟩ | ⟨hb3, rfl⟩, hMe⟩
      · rw [hMe] at w
        refine z_if_eq (tgt := 69) hx hb (by omega) rdX5_step_53 (by decide) (fun c5 => False.elim (by omega)) (fun c5 => ?_)
        refine lv_aload_n hx hb rdX5_step_56 rfl (lv_at hl 0 rfl) ?_
        refine lv_dup hx hb rdX5_step_57 rfl ?_
        refine f_5_4 F w (a := 4) rfl rtb_21 rdX5_step_58 ?_
        refine r_val (v := (zI (k : Int))) (i5) ?_
        refine lv_iconst (v := zI 1) hx hb rdX5_step_61 rfl ?_
        refine z_iadd (z := (((k + 1) : Nat) : Int)) hx hb rdX5_step_62 (by omega) ?_
        refine u_5_4 F w (a := 4) rfl rtb_21 rdX5_step_63 (fun H locs w => ?_)
        refine lv_goto (tgt := 25) hx hb rdX5_step_66 (by decide) ?_
        exact ih (k + 1) (st Nm 4 4 (zI (((k + 1) : Nat) : Int))) (by omega) (by omega) ((lx_s (by omega) (by omega) (by omega)).symm.trans i2) (isTc.o i3 (by decide) (by decide)) ((st_ne (Or.inr (by omega))).trans i4) (st_at) (FrQ.to i6 (by decide)) (by omega) _ _ ls w (lv_sub hl [0, 1] rfl)
      · rw [hMe] at w
        refine z_if_eq (tgt := 69) hx hb (by omega) rdX5_step_53 (by decide) (fun c6 => ?_) (fun c6 => False.elim (by omega))
        exact kk k Nm _ _ ls ((lx_e (by omega)).symm.trans i2) i3 i4 i5 i6 i0 i1 w (lv_sub hl [0, 1] rfl)
theorem rdX5_step_0 : decode cX5_step 0 = .ok (.aload_n 0, 1) := dq0 kk_42 (by decide +kernel)
theorem rdX5_step_1 : decode cX5_step 1 = .ok (.getfield 24, 3) := dqV kk_180 (by decide +kernel)
theorem rdX5_step_4 : decode cX5_step 4 = .ok (.istore_n 1, 1) := dq0 kk_60 (by decide +kernel)
theorem rdX5_step_5 : decode cX5_step 5 = .ok (.aload_n 0, 1) := dq0 kk_42 (by decide +kernel)
theorem rdX5_step_6 : decode cX5_step 6 = .ok (.aload_n 0, 1) := dq0 kk_42 (by decide +kernel)
theorem rdX5_step_7 : decode cX5_step 7 = .ok (.getfield 31, 3) := dqV kk_180 (by decide +kernel)
theorem rdX5_step_10 : decode cX5_step 10 = .ok (.iload_n 1, 1) := dq0 kk_27 (by decide +kernel)
theorem rdX5_step_11 : decode cX5_step 11 = .ok (.invokevirtual 48, 3) := dqV kk_182 (by decide +kernel)
theorem rtk_X8_skipBlanks : Cond.code yX8_skipBlanks cX8_skipBlanks 3 (some .int) ∈ TB := tbm (tc2 (List.mem_of_getElem? (i := 119) rfl)) rfl
theorem rgc_X8_skipBlanks : GoodIn TB (cw yX8_skipBlanks cX8_skipBlanks 3 (some .int)) := goodIn_c2 rtk_X8_skipBlanks
theorem rtb_30 : Cond.methodLink "ToneLines$RuleReader" 48 yX8_skipBlanks ∈ TB := tbm (tc3 (List.mem_of_getElem? (i := 45) rfl)) rfl
theorem rtb_31 : Cond.instanceMethod yX8_skipBlanks ∈ TB := tbm (tc2 (List.mem_of_getElem? (i := 117) rfl)) rfl
theorem rtb_32 : Cond.selects "ToneLines$Tape" yX8_skipBlanks yX8_skipBlanks ∈ TB := tbm (tc2 (List.mem_of_getElem? (i := 118) rfl)) rfl
theorem rgv_X5_48 : GoodIn TB (wsV RX5 48 RX8 yX8_skipBlanks (cw yX8_skipBlanks cX8_skipBlanks 3 (some .int))) := goodIn_4 rtb_30 rtb_31 rtb_32 rtb_27 rgc_X8_skipBlanks
theorem rhv_X8_skipBlanks : yX8_skipBlanks.cls = RX8 ∧ yX8_skipBlanks.cls ≠ "java/lang/invoke/MethodHandle" ∧ yX8_skipBlanks.cls ≠ "java/lang/invoke/VarHandle" ∧ (parseMethodDescriptor yX8_skipBlanks.desc).map (fun d => d.parameters.length) = some 1 := by decide +kernel
theorem rdX5_step_14 : decode cX5_step 14 = .ok (.putfield 21, 3) := dqV kk_181 (by decide +kernel)
theorem rtb_33 : Cond.fieldLink "ToneLines$RuleReader" 21 "ToneLines$RuleReader" "start" "I" ∈ TB := tbm (tc1 (List.mem_of_getElem? (i := 87) rfl)) rfl
theorem rdX5_step_17 : decode cX5_step 17 = .ok (.aload_n 0, 1) := dq0 kk_42 (by decide +kernel)
theorem rdX5_step_18 : decode cX5_step 18 = .ok (.aload_n 0, 1) := dq0 kk_42 (by decide +kernel)
theorem rdX5_step_19 : decode cX5_step 19 = .ok (.getfield 21, 3) := dqV kk_180 (by decide +kernel)
theorem rdX5_step_22 : decode cX5_step 22 = .ok (.putfield 24, 3) := dqV kk_181 (by decide +kernel)
theorem rdX5_step_69 : decode cX5_step 69 = .ok (.aload_n 0, 1) := dq0 kk_42 (by decide +kernel)
theorem rdX5_step_70 : decode cX5_step 70 = .ok (.getfield 24, 3) := dqV kk_180 (by decide +kernel)
theorem rdX5_step_73 : decode cX5_step 73 = .ok (.aload_n 0, 1) := dq0 kk_42 (by decide +kernel)
theorem rdX5_step_74 : decode cX5_step 74 = .ok (.getfield 21, 3) := dqV kk_180 (by decide +kernel)
theorem rdX5_step_77 : decode cX5_step 77 = .ok (.if_icmp .ne 27, 3) := dqT kk_160 (by decide +kernel)
theorem rdX5_step_104 : decode cX5_step 104 = .ok (.aload_n 0, 1) := dq0 kk_42 (by decide +kernel)
theorem rdX5_step_105 : decode cX5_step 105 = .ok (.aload_n 0, 1) := dq0 kk_42 (by decide +kernel)
theorem rdX5_step_106 : decode cX5_step 106 = .ok (.getfield 21, 3) := dqV kk_180 (by decide +kernel)
theorem rdX5_step_109 : decode cX5_step 109 = .ok (.iload_n 1, 1) := dq0 kk_27 (by decide +kernel)
theorem rdX5_step_110 : decode cX5_step 110 = .ok (.if_icmp .ne 40, 3) := dqT kk_160 (by decide +kernel)
theorem rdX5_step_150 : decode cX5_step 150 = .ok (.iconst 0, 1) := dq0 kk_3 (by decide +kernel)
theorem rdX5_step_151 : decode cX5_step 151 = .ok (.putfield 27, 3) := dqV kk_181 (by decide +kernel)
theorem rtb_34 : Cond.fieldLink "ToneLines$RuleReader" 27 "ToneLines$RuleReader" "joined" "Z" ∈ TB := tbm (tc1 (List.mem_of_getElem? (i := 89) rfl)) rfl
theorem rdX5_step_154 : decode cX5_step 154 = .ok (.return_, 1) := dq0 kk_177 (by decide +kernel)
theorem rdX5_step_113 : decode cX5_step 113 = .ok (.aload_n 0, 1) := dq0 kk_42 (by decide +kernel)
theorem rdX5_step_114 : decode cX5_step 114 = .ok (.getfield 31, 3) := dqV kk_180 (by decide +kernel)
theorem rdX5_step_117 : decode cX5_step 117 = .ok (.iload_n 1, 1) := dq0 kk_27 (by decide +kernel)
theorem rdX5_step_118 : decode cX5_step 118 = .ok (.iconst 1, 1) := dq0 kk_4 (by decide +kernel)
theorem rdX5_step_119 : decode cX5_step 119 = .ok (.isub, 1) := dq0 kk_100 (by decide +kernel)
theorem rdX5_step_120 : decode cX5_step 120 = .ok (.invokevirtual 52, 3) := dqV kk_182 (by decide +kernel)
theorem rdX5_step_123 : decode cX5_step 123 = .ok (.invokestatic 59, 3) := dqV kk_184 (by decide +kernel)
theorem rtk_X5_needsBlank : Cond.code yX5_needsBlank cX5_needsBlank 1 (some .boolean) ∈ TB := tbm (tc3 (List.mem_of_getElem? (i := 52) rfl)) rfl
theorem rgc_X5_needsBlank : GoodIn TB (cw yX5_needsBlank cX5_needsBlank 1 (some .boolean)) := goodIn_c2 rtk_X5_needsBlank
theorem rtb_35 : Cond.methodLink "ToneLines$RuleReader" 59 yX5_needsBlank ∈ TB := tbm (tc3 (List.mem_of_getElem? (i := 50) rfl)) rfl
theorem rtb_36 : Cond.static yX5_needsBlank ∈ TB := tbm (tc3 (List.mem_of_getElem? (i := 51) rfl)) rfl
theorem rtb_37 : Cond.initialized "ToneLines$RuleReader" ∈ TB := tbm (tc1 (List.mem_of_getElem? (i := 4) rfl)) rfl
theorem rgs_X5_59 : GoodIn TB (va_wsS RX5 59 yX5_needsBlank (cw yX5_needsBlank cX5_needsBlank 1 (some .boolean))) := goodIn_3 rtb_35 rtb_36 rtb_37 rgc_X5_needsBlank
theorem rhs_X5_needsBlank : yX5_needsBlank.cls ≠ "java/lang/invoke/MethodHandle" ∧ yX5_needsBlank.cls ≠ "java/lang/invoke/VarHandle" ∧ (parseMethodDescriptor yX5_needsBlank.desc).map (fun d => d.parameters.length) = some 1 := by decide +kernel
theorem rdX5_step_126 : decode cX5_step 126 = .ok (.ifCond .eq 24, 3) := dqT kk_153 (by decide +kernel)
theorem rdX5_step_129 : decode cX5_step 129 = .ok (.aload_n 0, 1) := dq0 kk_42 (by decide +kernel)
theorem rdX5_step_130 : decode cX5_step 130 = .ok (.getfield 31, 3) := dqV kk_180 (by decide +kernel)
theorem rdX5_step_133 : decode cX5_step 133 = .ok (.aload_n 0, 1) := dq0 kk_42 (by decide +kernel)
theorem rdX5_step_134 : decode cX5_step 134 = .ok (.getfield 21, 3) := dqV kk_180 (by decide +kernel)
theorem rdX5_step_137 : decode cX5_step 137 = .ok (.invokevirtual 52, 3) := dqV kk_182 (by decide +kernel)
theorem rdX5_step_140 : decode cX5_step 140 = .ok (.invokestatic 59, 3) := dqV kk_184 (by decide +kernel)
theorem rdX5_step_143 : decode cX5_step 143 = .ok (.ifCond .eq 7, 3) := dqT kk_153 (by decide +kernel)
theorem rdX5_step_146 : decode cX5_step 146 = .ok (.iconst 1, 1) := dq0 kk_4 (by decide +kernel)
theorem rdX5_step_147 : decode cX5_step 147 = .ok (.goto 4, 3) := dqT kk_167 (by decide +kernel)
theorem rdX5_step_80 : decode cX5_step 80 = .ok (.aload_n 0, 1) := dq0 kk_42 (by decide +kernel)
theorem rdX5_step_81 : decode cX5_step 81 = .ok (.getfield 24, 3) := dqV kk_180 (by decide +kernel)
theorem rdX5_step_84 : decode cX5_step 84 = .ok (.aload_n 0, 1) := dq0 kk_42 (by decide +kernel)
theorem rdX5_step_85 : decode cX5_step 85 = .ok (.getfield 31, 3) := dqV kk_180 (by decide +kernel)
theorem rdX5_step_88 : decode cX5_step 88 = .ok (.getfield 39, 3) := dqV kk_180 (by decide +kernel)
theorem rdX5_step_91 : decode cX5_step 91 = .ok (.if_icmp .ge 13, 3) := dqT kk_162 (by decide +kernel)
theorem rdX5_step_94 : decode cX5_step 94 = .ok (.aload_n 0, 1) := dq0 kk_42 (by decide +kernel)
theorem rdX5_step_95 : decode cX5_step 95 = .ok (.dup, 1) := dq0 kk_89 (by decide +kernel)
theorem rdX5_step_96 : decode cX5_step 96 = .ok (.getfield 24, 3) := dqV kk_180 (by decide +kernel)
theorem rdX5_step_99 : decode cX5_step 99 = .ok (.iconst 1, 1) := dq0 kk_4 (by decide +kernel)
theorem rdX5_step_100 : decode cX5_step 100 = .ok (.iadd, 1) := dq0 kk_96 (by decide +kernel)
theorem rdX5_step_101 : decode cX5_step 101 = .ok (.putfield 24, 3) := dqV kk_181 (by decide +kernel)
set_option maxRecDepth 4000 in
theorem s_X5_step {l : Launch} {D : va_G} {B : Nat} {cy : Nat → ClassId} {M : Mem} {T : Nat → Nat} {tn : Nat} (hT : okT T tn) (hTc : isTc M T tn) {E : Nat} (hE : E ≤ tn) (he : M.1 4 4 = zI (E : Int)) : Cv l D B cy yX5_step cX5_step 2 1 22 [.ref (B + 4)] M (fun M1 => RS M1 T tn E ∧ FrQ M1 M) := by
  refine s_any (by decide) (Nat.le_of_ble_eq_true rfl) ?_
  intro p e s m below meth c ls F hr hlocks w hl
  have F : CallFix p m c cX5_step 2 s _ TB RX5 := F
  have hx := F.1
  have hb := F.2.1
  have hl : lv_has ls 2 [(0, .ref (B + 4))] := hl
  have hN := hT.1
  have hsk := sk_le (T := T) hE
  refine lv_aload_n hx hb rdX5_step_0 rfl (lv_at hl 0 rfl) ?_
  refine f_5_4 F w (a := 4) rfl rtb_21 rdX5_step_1 ?_
  refine r_val (v := (zI (E : Int))) (he) ?_
  refine lv_istore_n (lv' := [(1, .int (zI (E : Int))), (0, .ref (B + 4))]) hx hb rdX5_step_4 rfl hl (by decide) rfl (fun ls hl => ?_)
  refine lv_aload_n hx hb rdX5_step_5 rfl (lv_at hl 1 rfl) ?_
  refine lv_aload_n hx hb rdX5_step_6 rfl (lv_at hl 1 rfl) ?_
  refine f_5_0 F w (a := 4) rfl rtb_22 rdX5_step_7 ?_
  refine lv_iload_n hx hb rdX5_step_10 rfl (lv_at hl 0 rfl) ?_
  refine x_Vi F w (As := [.int (zI (E : Int))]) (rest := [.ref (B + 4)]) (a := 1) (kd_lt (a := 1) (show kd 1 = (8, 0, 0) from rfl) (by decide)) (sh_8 rfl _ _) rfl (s_X8_skipBlanks hT hTc (i := E) (by omega)) rgv_X5_48 rhv_X8_skipBlanks ⟨(Nat.le_of_ble_eq_true rfl), (Nat.le_of_ble_eq_true rfl)⟩ hl.1 rfl (Nat.le_of_ble_eq_true rfl) ⟨Nat.zero_le _, Nat.zero_le _⟩ rdX5_step_11 (fun H locs w => ?_)
  have hk0 := sk_le (T := T) (N := tn) (i := E) (by omega)
  refine u_5_3 F w (a := 4) rfl rtb_33 rdX5_step_14 (fun H locs w => ?_)
  refine lv_aload_n hx hb rdX5_step_17 rfl (lv_at hl 1 rfl) ?_
  refine lv_aload_n hx hb rdX5_step_18 rfl (lv_at hl 1 rfl) ?_
  refine f_5_3 F w (a := 4) rfl rtb_33 rdX5_step_19 ?_
  refine r_val (v := (zI (((sk T tn E) : Nat) : Int))) (st_at) ?_
  refine u_5_4 F w (a := 4) rfl rtb_21 rdX5_step_22 (fun H locs w => ?_)
  refine lp_X5_step  F (Nat.le_of_ble_eq_true rfl) (Nat.le_of_ble_eq_true rfl) hT hE (fun k Nm H locs ls x0 x1 x2 x3 x4 x5 x6 w hl => ?_) tn (sk T tn E) (st (st M 4 3 (zI (((sk T tn E) : Nat) : Int))) 4 4 (zI (((sk T tn E) : Nat) : Int))) (by omega) (by omega) rfl (isTc.o (isTc.o hTc (by decide) (by decide)) (by decide) (by decide)) ((st_ne (Or.inr (by omega))).trans st_at) (st_at) (FrQ.to (FrQ.to FrQ.rf (by decide)) (by decide)) (by omega) _ _ ls w (lv_sub hl [1, 0] rfl)
  refine lv_aload_n hx hb rdX5_step_69 rfl (lv_at hl 0 rfl) ?_
  refine f_5_4 F w (a := 4) rfl rtb_21 rdX5_step_70 ?_
  refine r_val (v := (zI (k : Int))) (x3) ?_
  refine lv_aload_n hx hb rdX5_step_73 rfl (lv_at hl 0 rfl) ?_
  refine f_5_3 F w (a := 4) rfl rtb_33 rdX5_step_74 ?_
  refine r_val (v := (zI (((sk T tn E) : Nat) : Int))) (x2) ?_
  refine z_icmp_ne (tgt := 104) hx hb (by omega) (by omega) rdX5_step_77 (by decide) (fun c2 => ?_) (fun c2 => ?_)
  · refine lv_aload_n hx hb rdX5_step_104 rfl (lv_at hl 0 rfl) ?_
    refine lv_aload_n hx hb rdX5_step_105 rfl (lv_at hl 0 rfl) ?_
    refine f_5_3 F w (a := 4) rfl rtb_33 rdX5_step_106 ?_
    refine r_val (v := (zI (((sk T tn E) : Nat) : Int))) (x2) ?_
    refine lv_iload_n hx hb rdX5_step_109 rfl (lv_at hl 1 rfl) ?_
    refine z_icmp_ne (tgt := 150) hx hb (by omega) (by omega) rdX5_step_110 (by decide) (fun c3 => ?_) (fun c3 => ?_)
    · refine lv_iconst (v := zI 0) hx hb rdX5_step_150 rfl ?_
      refine u_5_5 F w (a := 4) rfl (by decide) (by decide) rtb_34 rdX5_step_151 (fun H locs w => ?_)
      have heo := en_of hE x0
      have hsm := sg_m (T := T) hE
      have hTE : sk T tn E = E → T (sk T tn E) = T E := fun h => by rw [h]
      exact e_v F w hr hlocks ⟨⟨hE, (st_ne (Or.inr (by omega))).trans x2, ((st_ne (Or.inr (by omega))).trans x3).trans (congrArg zI (by omega)), (st_at).trans (by rw [(jn_0 (fun q => by have q1 := q.1; have q2 := q.2.1; have q3 := q.2.2.1; have q4 := q.2.2.2.1; have q5 := q.2.2.2.2; have q6 := hTE q1; unfold nbl at q3 q5; omega))]; rfl)⟩, (FrQ.to x4 (by decide))⟩ rdX5_step_154
    · refine lv_aload_n hx hb rdX5_step_113 rfl (lv_at hl 0 rfl) ?_
      refine f_5_0 F w (a := 4) rfl rtb_22 rdX5_step_114 ?_
      refine lv_iload_n hx hb rdX5_step_117 rfl (lv_at hl 1 rfl) ?_
      refine lv_iconst (v := zI 1) hx hb rdX5_step_118 rfl ?_
      refine z_isub (z := ((E : Int) - 1)) hx hb rdX5_step_119 (by omega) ?_
      refine x_Vi F w (As := [.int (zI ((E : Int) - 1))]) (rest := [.ref (B + 4)]) (a := 1) (kd_lt (a := 1) (show kd 1 = (8, 0, 0) from rfl) (by decide)) (sh_8 rfl _ _) rfl (s_X8_signAt hT x1 (z := ((E : Int) - 1)) (by omega)) rgv_X5_52 rhv_X8_signAt ⟨(Nat.le_of_ble_eq_true rfl), (Nat.le_of_ble_eq_true rfl)⟩ hl.1 rfl (Nat.le_of_ble_eq_true rfl) ⟨Nat.zero_le _, Nat.zero_le _⟩ rdX5_step_120 (fun H locs w => ?_)
      have hg3 := sg_rg hT ((E : Int) - 1)
      refine k_Si F w (As := [.int (zI (sg T tn ((E : Int) - 1)))]) (rest := [.ref (B + 4)]) (s_X5_needsBlank (z := (sg T tn ((E : Int) - 1))) (by omega)) rgs_X5_59 rhs_X5_needsBlank ⟨(Nat.le_of_ble_eq_true rfl), (Nat.le_of_ble_eq_true rfl)⟩ hl.1 rfl (Nat.le_of_ble_eq_true rfl) ⟨Nat.zero_le _, Nat.zero_le _⟩ rdX5_step_123 (fun r Ma6 H locs hp w => ?_)
      rcases hp with ⟨⟨hb5, rfl⟩ | ⟨hb5, rfl⟩, hMe⟩
      · rw [hMe] at w
        refine z_if_eq (tgt := 150) hx hb (by omega) rdX5_step_126 (by decide) (fun c7 => False.elim (by omega)) (fun c7 => ?_)
        refine lv_aload_n hx hb rdX5_step_129 rfl (lv_at hl 0 rfl) ?_
        refine f_5_0 F w (a := 4) rfl rtb_22 rdX5_step_130 ?_
        refine lv_aload_n hx hb rdX5_step_133 rfl (lv_at hl 0 rfl) ?_
        refine f_5_3 F w (a := 4) rfl rtb_33 rdX5_step_134 ?_
        refine r_val (v := (zI (((sk T tn E) : Nat) : Int))) (x2) ?_
        refine x_Vi F w (As := [.int (zI (((sk T tn E) : Nat) : Int))]) (rest := [.ref (B + 4)]) (a := 1) (kd_lt (a := 1) (show kd 1 = (8, 0, 0) from rfl) (by decide)) (sh_8 rfl _ _) rfl (s_X8_signAt hT x1 (z := (((sk T tn E) : Nat) : Int)) (by omega)) rgv_X5_52 rhv_X8_signAt ⟨(Nat.le_of_ble_eq_true rfl), (Nat.le_of_ble_eq_true rfl)⟩ hl.1 rfl (Nat.le_of_ble_eq_true rfl) ⟨Nat.zero_le _, Nat.zero_le _⟩ rdX5_step_137 (fun H locs w => ?_)
        have hg7 := sg_rg hT (((sk T tn E) : Nat) : Int)
        have hh7 := sg_c (T := T) (N := tn) (sk T tn E)
        refine k_Si F w (As := [.int (zI (sg T tn (((sk T tn E) : Nat) : Int)))]) (rest := [.ref (B + 4)]) (s_X5_needsBlank (z := (sg T tn (((sk T tn E) : Nat) : Int))) (by omega)) rgs_X5_59 rhs_X5_needsBlank ⟨(Nat.le_of_ble_eq_true rfl), (Nat.le_of_ble_eq_true rfl)⟩ hl.1 rfl (Nat.le_of_ble_eq_true rfl) ⟨Nat.zero_le _, Nat.zero_le _⟩ rdX5_step_140 (fun r Ma10 H locs hp w => ?_)
        rcases hp with ⟨⟨hb9, rfl⟩ | ⟨hb9, rfl⟩, hMe⟩
        · rw [hMe] at w
          refine z_if_eq (tgt := 150) hx hb (by omega) rdX5_step_143 (by decide) (fun c11 => False.elim (by omega)) (fun c11 => ?_)
          refine lv_iconst (v := zI 1) hx hb rdX5_step_146 rfl ?_
          refine lv_goto (tgt := 151) hx hb rdX5_step_147 (by decide) ?_
          refine u_5_5 F w (a := 4) rfl (by decide) (by decide) rtb_34 rdX5_step_151 (fun H locs w => ?_)
          have heo := en_of hE x0
          have hsm := sg_m (T := T) hE
          have hTE : sk T tn E = E → T (sk T tn E) = T E := fun h => by rw [h]
          exact e_v F w hr hlocks ⟨⟨hE, (st_ne (Or.inr (by omega))).trans x2, ((st_ne (Or.inr (by omega))).trans x3).trans (congrArg zI (by omega)), (st_at).trans (by rw [(jn_1 ⟨by omega, by omega, (by unfold nbl; omega), by omega, (by have := hTE (by omega); unfold nbl; omega)⟩)]; rfl)⟩, (FrQ.to x4 (by decide))⟩ rdX5_step_154
        · rw [hMe] at w
          refine z_if_eq (tgt := 150) hx hb (by omega) rdX5_step_143 (by decide) (fun c12 => ?_) (fun c12 => False.elim (by omega))
          refine lv_iconst (v := zI 0) hx hb rdX5_step_150 rfl ?_
          refine u_5_5 F w (a := 4) rfl (by decide) (by decide) rtb_34 rdX5_step_151 (fun H locs w => ?_)
          have heo := en_of hE x0
          have hsm := sg_m (T := T) hE
          have hTE : sk T tn E = E → T (sk T tn E) = T E := fun h => by rw [h]
          exact e_v F w hr hlocks ⟨⟨hE, (st_ne (Or.inr (by omega))).trans x2, ((st_ne (Or.inr (by omega))).trans x3).trans (congrArg zI (by omega)), (st_at).trans (by rw [(jn_0 (fun q => by have q1 := q.1; have q2 := q.2.1; have q3 := q.2.2.1; have q4 := q.2.2.2.1; have q5 := q.2.2.2.2; have q6 := hTE q1; unfold nbl at q3 q5; omega))]; rfl)⟩, (FrQ.to x4 (by decide))⟩ rdX5_step_154
      · rw [hMe] at w
        refine z_if_eq (tgt := 150) hx hb (by omega) rdX5_step_126 (by decide) (fun c13 => ?_) (fun c13 => False.elim (by omega))
        refine lv_iconst (v := zI 0) hx hb rdX5_step_150 rfl ?_
        refine u_5_5 F w (a := 4) rfl (by decide) (by decide) rtb_34 rdX5_step_151 (fun H locs w => ?_)
        have heo := en_of hE x0
        have hsm := sg_m (T := T) hE
        have hTE : sk T tn E = E → T (sk T tn E) = T E := fun h => by rw [h]
        exact e_v F w hr hlocks ⟨⟨hE, (st_ne (Or.inr (by omega))).trans x2, ((st_ne (Or.inr (by omega))).trans x3).trans (congrArg zI (by omega)), (st_at).trans (by rw [(jn_0 (fun q => by have q1 := q.1; have q2 := q.2.1; have q3 := q.2.2.1; have q4 := q.2.2.2.1; have q5 := q.2.2.2.2; have q6 := hTE q1; unfold nbl at q3 q5; omega))]; rfl)⟩, (FrQ.to x4 (by decide))⟩ rdX5_step_154
  · refine lv_aload_n hx hb rdX5_step_80 rfl (lv_at hl 0 rfl) ?_
    refine f_5_4 F w (a := 4) rfl rtb_21 rdX5_step_81 ?_
    refine r_val (v := (zI (k : Int))) (x3) ?_
    refine lv_aload_n hx hb rdX5_step_84 rfl (lv_at hl 0 rfl) ?_
    refine f_5_0 F w (a := 4) rfl rtb_22 rdX5_step_85 ?_
    refine f_8_1 F w (a := 1) rfl rtb_23 rdX5_step_88 ?_
    refine r_val (v := (zI (tn : Int))) (x1.1) ?_
    refine z_icmp_ge (tgt := 104) hx hb (by omega) (by omega) rdX5_step_91 (by decide) (fun c14 => ?_) (fun c14 => ?_)
    · refine lv_aload_n hx hb rdX5_step_104 rfl (lv_at hl 0 rfl) ?_
      refine lv_aload_n hx hb rdX5_step_105 rfl (lv_at hl 0 rfl) ?_
      refine f_5_3 F w (a := 4) rfl rtb_33 rdX5_step_106 ?_
      refine r_val (v := (zI (((sk T tn E) : Nat) : Int))) (x2) ?_
      refine lv_iload_n hx hb rdX5_step_109 rfl (lv_at hl 1 rfl) ?_
      refine z_icmp_ne (tgt := 150) hx hb (by omega) (by omega) rdX5_step_110 (by decide) (fun c15 => ?_) (fun c15 => ?_)
      · refine lv_iconst (v := zI 0) hx hb rdX5_step_150 rfl ?_
        refine u_5_5 F w (a := 4) rfl (by decide) (by decide) rtb_34 rdX5_step_151 (fun H locs w => ?_)
        have heo := en_of hE x0
        have hsm := sg_m (T := T) hE
        have hTE : sk T tn E = E → T (sk T tn E) = T E := fun h => by rw [h]
        exact e_v F w hr hlocks ⟨⟨hE, (st_ne (Or.inr (by omega))).trans x2, ((st_ne (Or.inr (by omega))).trans x3).trans (congrArg zI (by omega)), (st_at).trans (by rw [(jn_0 (fun q => by have q1 := q.1; have q2 := q.2.1; have q3 := q.2.2.1; have q4 := q.2.2.2.1; have q5 := q.2.2.2.2; have q6 := hTE q1; unfold nbl at q3 q5; omega))]; rfl)⟩, (FrQ.to x4 (by decide))⟩ rdX5_step_154
      · refine lv_aload_n hx hb rdX5_step_113 rfl (lv_at hl 0 rfl) ?_
        refine f_5_0 F w (a := 4) rfl rtb_22 rdX5_step_114 ?_
        refine lv_iload_n hx hb rdX5_step_117 rfl (lv_at hl 1 rfl) ?_
        refine lv_iconst (v := zI 1) hx hb rdX5_step_118 rfl ?_
        refine z_isub (z := ((E : Int) - 1)) hx hb rdX5_step_119 (by omega) ?_
        refine x_Vi F w (As := [.int (zI ((E : Int) - 1))]) (rest := [.ref (B + 4)]) (a := 1) (kd_lt (a := 1) (show kd 1 = (8, 0, 0) from rfl) (by decide)) (sh_8 rfl _ _) rfl (s_X8_signAt hT x1 (z := ((E : Int) - 1)) (by omega)) rgv_X5_52 rhv_X8_signAt ⟨(Nat.le_of_ble_eq_true rfl), (Nat.le_of_ble_eq_true rfl)⟩ hl.1 rfl (Nat.le_of_ble_eq_true rfl) ⟨Nat.zero_le _, Nat.zero_le _⟩ rdX5_step_120 (fun H locs w => ?_)
        have hg15 := sg_rg hT ((E : Int) - 1)
        refine k_Si F w (As := [.int (zI (sg T tn ((E : Int) - 1)))]) (rest := [.ref (B + 4)]) (s_X5_needsBlank (z := (sg T tn ((E : Int) - 1))) (by omega)) rgs_X5_59 rhs_X5_needsBlank ⟨(Nat.le_of_ble_eq_true rfl), (Nat.le_of_ble_eq_true rfl)⟩ hl.1 rfl (Nat.le_of_ble_eq_true rfl) ⟨Nat.zero_le _, Nat.zero_le _⟩ rdX5_step_123 (fun r Ma18 H locs hp w => ?_)
        rcases hp with ⟨⟨hb17, rfl⟩ | ⟨hb17, rfl⟩, hMe⟩
        · rw [hMe] at w
          refine z_if_eq (tgt := 150) hx hb (by omega) rdX5_step_126 (by decide) (fun c19 => False.elim (by omega)) (fun c19 => ?_)
          refine lv_aload_n hx hb rdX5_step_129 rfl (lv_at hl 0 rfl) ?_
          refine f_5_0 F w (a := 4) rfl rtb_22 rdX5_step_130 ?_
          refine lv_aload_n hx hb rdX5_step_133 rfl (lv_at hl 0 rfl) ?_
          refine f_5_3 F w (a := 4) rfl rtb_33 rdX5_step_134 ?_
          refine r_val (v := (zI (((sk T tn E) : Nat) : Int))) (x2) ?_
          refine x_Vi F w (As := [.int (zI (((sk T tn E) : Nat) : Int))]) (rest := [.ref (B + 4)]) (a := 1) (kd_lt (a := 1) (show kd 1 = (8, 0, 0) from rfl) (by decide)) (sh_8 rfl _ _) rfl (s_X8_signAt hT x1 (z := (((sk T tn E) : Nat) : Int)) (by omega)) rgv_X5_52 rhv_X8_signAt ⟨(Nat.le_of_ble_eq_true rfl), (Nat.le_of_ble_eq_true rfl)⟩ hl.1 rfl (Nat.le_of_ble_eq_true rfl) ⟨Nat.zero_le _, Nat.zero_le _⟩ rdX5_step_137 (fun H locs w => ?_)
          have hg19 := sg_rg hT (((sk T tn E) : Nat) : Int)
          have hh19 := sg_c (T := T) (N := tn) (sk T tn E)
          refine k_Si F w (As := [.int (zI (sg T tn (((sk T tn E) : Nat) : Int)))]) (rest := [.ref (B + 4)]) (s_X5_needsBlank (z := (sg T tn (((sk T tn E) : Nat) : Int))) (by omega)) rgs_X5_59 rhs_X5_needsBlank ⟨(Nat.le_of_ble_eq_true rfl), (Nat.le_of_ble_eq_true rfl)⟩ hl.1 rfl (Nat.le_of_ble_eq_true rfl) ⟨Nat.zero_le _, Nat.zero_le _⟩ rdX5_step_140 (fun r Ma22 H locs hp w => ?_)
          rcases hp with ⟨⟨hb21, rfl⟩ | ⟨hb21, rfl⟩, hMe⟩
          · rw [hMe] at w
            refine z_if_eq (tgt := 150) hx hb (by omega) rdX5_step_143 (by decide) (fun c23 => False.elim (by omega)) (fun c23 => ?_)
            refine lv_iconst (v := zI 1) hx hb rdX5_step_146 rfl ?_
            refine lv_goto (tgt := 151) hx hb rdX5_step_147 (by decide) ?_
            refine u_5_5 F w (a := 4) rfl (by decide) (by decide) rtb_34 rdX5_step_151 (fun H locs w => ?_)
            have heo := en_of hE x0
            have hsm := sg_m (T := T) hE
            have hTE : sk T tn E = E → T (sk T tn E) = T E := fun h => by rw [h]
            exact e_v F w hr hlocks ⟨⟨hE, (st_ne (Or.inr (by omega))).trans x2, ((st_ne (Or.inr (by omega))).trans x3).trans (congrArg zI (by omega)), (st_at).trans (by rw [(jn_1 ⟨by omega, by omega, (by unfold nbl; omega), by omega, (by have := hTE (by omega); unfold nbl; omega)⟩)]; rfl)⟩, (FrQ.to x4 (by decide))⟩ rdX5_step_154
          · rw [hMe] at w
            refine z_if_eq (tgt := 150) hx hb (by omega) rdX5_step_143 (by decide) (fun c24 => ?_) (fun c24 => False.elim (by omega))
            refine lv_iconst (v := zI 0) hx hb rdX5_step_150 rfl ?_
            refine u_5_5 F w (a := 4) rfl (by decide) (by decide) rtb_34 rdX5_step_151 (fun H locs w => ?_)
            have heo := en_of hE x0
            have hsm := sg_m (T := T) hE
            have hTE : sk T tn E = E → T (sk T tn E) = T E := fun h => by rw [h]
            exact e_v F w hr hlocks ⟨⟨hE, (st_ne (Or.inr (by omega))).trans x2, ((st_ne (Or.inr (by omega))).trans x3).trans (congrArg zI (by omega)), (st_at).trans (by rw [(jn_0 (fun q => by have q1 := q.1; have q2 := q.2.1; have q3 := q.2.2.1; have q4 := q.2.2.2.1; have q5 := q.2.2.2.2; have q6 := hTE q1; unfold nbl at q3 q5; omega))]; rfl)⟩, (FrQ.to x4 (by decide))⟩ rdX5_step_154
        · rw [hMe] at w
          refine z_if_eq (tgt := 150) hx hb (by omega) rdX5_step_126 (by decide) (fun c25 => ?_) (fun c25 => False.elim (by omega))
          refine lv_iconst (v := zI 0) hx hb rdX5_step_150 rfl ?_
          refine u_5_5 F w (a := 4) rfl (by decide) (by decide) rtb_34 rdX5_step_151 (fun H locs w => ?_)
          have heo := en_of hE x0
          have hsm := sg_m (T := T) hE
          have hTE : sk T tn E = E → T (sk T tn E) = T E := fun h => by rw [h]
          exact e_v F w hr hlocks ⟨⟨hE, (st_ne (Or.inr (by omega))).trans x2, ((st_ne (Or.inr (by omega))).trans x3).trans (congrArg zI (by omega)), (st_at).trans (by rw [(jn_0 (fun q => by have q1 := q.1; have q2 := q.2.1; have q3 := q.2.2.1; have q4 := q.2.2.2.1; have q5 := q.2.2.2.2; have q6 := hTE q1; unfold nbl at q3 q5; omega))]; rfl)⟩, (FrQ.to x4 (by decide))⟩ rdX5_step_154
    · refine lv_aload_n hx hb rdX5_step_94 rfl (lv_at hl 0 rfl) ?_
      refine lv_dup hx hb rdX5_step_95 rfl ?_
      refine f_5_4 F w (a := 4) rfl rtb_21 rdX5_step_96 ?_
      refine r_val (v := (zI (k : Int))) (x3) ?_
      refine lv_iconst (v := zI 1) hx hb rdX5_step_99 rfl ?_
      refine z_iadd (z := (((k + 1) : Nat) : Int)) hx hb rdX5_step_100 (by omega) ?_
      refine u_5_4 F w (a := 4) rfl rtb_21 rdX5_step_101 (fun H locs w => ?_)
      refine lv_aload_n hx hb rdX5_step_104 rfl (lv_at hl 0 rfl) ?_
      refine lv_aload_n hx hb rdX5_step_105 rfl (lv_at hl 0 rfl) ?_
      refine f_5_3 F w (a := 4) rfl rtb_33 rdX5_step_106 ?_
      refine r_val (v := (zI (((sk T tn E) : Nat) : Int))) ((st_ne (Or.inr (by omega))).trans x2) ?_
      refine lv_iload_n hx hb rdX5_step_109 rfl (lv_at hl 1 rfl) ?_
      refine z_icmp_ne (tgt := 150) hx hb (by omega) (by omega) rdX5_step_110 (by decide) (fun c26 => ?_) (fun c26 => ?_)
      · refine lv_iconst (v := zI 0) hx hb rdX5_step_150 rfl ?_
        refine u_5_5 F w (a := 4) rfl (by decide) (by decide) rtb_34 rdX5_step_151 (fun H locs w => ?_)
        have heo := en_of hE x0
        have hsm := sg_m (T := T) hE
        have hTE : sk T tn E = E → T (sk T tn E) = T E := fun h => by rw [h]
        exact e_v F w hr hlocks ⟨⟨hE, (st_ne (Or.inr (by omega))).trans ((st_ne (Or.inr (by omega))).trans x2), ((st_ne (Or.inr (by omega))).trans st_at).trans (congrArg zI (by omega)), (st_at).trans (by rw [(jn_0 (fun q => by have q1 := q.1; have q2 := q.2.1; have q3 := q.2.2.1; have q4 := q.2.2.2.1; have q5 := q.2.2.2.2; have q6 := hTE q1; unfold nbl at q3 q5; omega))]; rfl)⟩, (FrQ.to (FrQ.to x4 (by decide)) (by decide))⟩ rdX5_step_154
      · refine lv_aload_n hx hb rdX5_step_113 rfl (lv_at hl 0 rfl) ?_
        refine f_5_0 F w (a := 4) rfl rtb_22 rdX5_step_114 ?_
        refine lv_iload_n hx hb rdX5_step_117 rfl (lv_at hl 1 rfl) ?_
        refine lv_iconst (v := zI 1) hx hb rdX5_step_118 rfl ?_
        refine z_isub (z := ((E : Int) - 1)) hx hb rdX5_step_119 (by omega) ?_
        refine x_Vi F w (As := [.int (zI ((E : Int) - 1))]) (rest := [.ref (B + 4)]) (a := 1) (kd_lt (a := 1) (show kd 1 = (8, 0, 0) from rfl) (by decide)) (sh_8 rfl _ _) rfl (s_X8_signAt hT (isTc.o x1 (by decide) (by decide)) (z := ((E : Int) - 1)) (by omega)) rgv_X5_52 rhv_X8_signAt ⟨(Nat.le_of_ble_eq_true rfl), (Nat.le_of_ble_eq_true rfl)⟩ hl.1 rfl (Nat.le_of_ble_eq_true rfl) ⟨Nat.zero_le _, Nat.zero_le _⟩ rdX5_step_120 (fun H locs w => ?_)
        have hg26 := sg_rg hT ((E : Int) - 1)
        refine k_Si F w (As := [.int (zI (sg T tn ((E : Int) - 1)))]) (rest := [.ref (B + 4)]) (s_X5_needsBlank (z := (sg T tn ((E : Int) - 1))) (by omega)) rgs_X5_59 rhs_X5_needsBlank ⟨(Nat.le_of_ble_eq_true rfl), (Nat.le_of_ble_eq_true rfl)⟩ hl.1 rfl (Nat.le_of_ble_eq_true rfl) ⟨Nat.zero_le _, Nat.zero_le _⟩ rdX5_step_123 (fun r Ma29 H locs hp w => ?_)
        rcases hp with ⟨⟨hb28, rfl⟩ | ⟨hb28, rfl⟩, hMe⟩
        · rw [hMe] at w
          refine z_if_eq (tgt := 150) hx hb (by omega) rdX5_step_126 (by decide) (fun c30 => False.elim (by omega)) (fun c30 => ?_)
          refine lv_aload_n hx hb rdX5_step_129 rfl (lv_at hl 0 rfl) ?_
          refine f_5_0 F w (a := 4) rfl rtb_22 rdX5_step_130 ?_
          refine lv_aload_n hx hb rdX5_step_133 rfl (lv_at hl 0 rfl) ?_
          refine f_5_3 F w (a := 4) rfl rtb_33 rdX5_step_134 ?_
          refine r_val (v := (zI (((sk T tn E) : Nat) : Int))) ((st_ne (Or.inr (by omega))).trans x2) ?_
          refine x_Vi F w (As := [.int (zI (((sk T tn E) : Nat) : Int))]) (rest := [.ref (B + 4)]) (a := 1) (kd_lt (a := 1) (show kd 1 = (8, 0, 0) from rfl) (by decide)) (sh_8 rfl _ _) rfl (s_X8_signAt hT (isTc.o x1 (by decide) (by decide)) (z := (((sk T tn E) : Nat) : Int)) (by omega)) rgv_X5_52 rhv_X8_signAt ⟨(Nat.le_of_ble_eq_true rfl), (Nat.le_of_ble_eq_true rfl)⟩ hl.1 rfl (Nat.le_of_ble_eq_true rfl) ⟨Nat.zero_le _, Nat.zero_le _⟩ rdX5_step_137 (fun H locs w => ?_)
          have hg30 := sg_rg hT (((sk T tn E) : Nat) : Int)
          have hh30 := sg_c (T := T) (N := tn) (sk T tn E)
          refine k_Si F w (As := [.int (zI (sg T tn (((sk T tn E) : Nat) : Int)))]) (rest := [.ref (B + 4)]) (s_X5_needsBlank (z := (sg T tn (((sk T tn E) : Nat) : Int))) (by omega)) rgs_X5_59 rhs_X5_needsBlank ⟨(Nat.le_of_ble_eq_true rfl), (Nat.le_of_ble_eq_true rfl)⟩ hl.1 rfl (Nat.le_of_ble_eq_true rfl) ⟨Nat.zero_le _, Nat.zero_le _⟩ rdX5_step_140 (fun r Ma33 H locs hp w => ?_)
          rcases hp with ⟨⟨hb32, rfl⟩ | ⟨hb32, rfl⟩, hMe⟩
          · rw [hMe] at w
            refine z_if_eq (tgt := 150) hx hb (by omega) rdX5_step_143 (by decide) (fun c34 => False.elim (by omega)) (fun c34 => ?_)
            refine lv_iconst (v := zI 1) hx hb rdX5_step_146 rfl ?_
            refine lv_goto (tgt := 151) hx hb rdX5_step_147 (by decide) ?_
            refine u_5_5 F w (a := 4) rfl (by decide) (by decide) rtb_34 rdX5_step_151 (fun H locs w => ?_)
            have heo := en_of hE x0
            have hsm := sg_m (T := T) hE
            have hTE : sk T tn E = E → T (sk T tn E) = T E := fun h => by rw [h]
            exact e_v F w hr hlocks ⟨⟨hE, (st_ne (Or.inr (by omega))).trans ((st_ne (Or.inr (by omega))).trans x2), ((st_ne (Or.inr (by omega))).trans st_at).trans (congrArg zI (by omega)), (st_at).trans (by rw [(jn_1 ⟨by omega, by omega, (by unfold nbl; omega), by omega, (by have := hTE (by omega); unfold nbl; omega)⟩)]; rfl)⟩, (FrQ.to (FrQ.to x4 (by decide)) (by decide))⟩ rdX5_step_154
          · rw [hMe] at w
            refine z_if_eq (tgt := 150) hx hb (by omega) rdX5_step_143 (by decide) (fun c35 => ?_) (fun c35 => False.elim (by omega))
            refine lv_iconst (v := zI 0) hx hb rdX5_step_150 rfl ?_
            refine u_5_5 F w (a := 4) rfl (by decide) (by decide) rtb_34 rdX5_step_151 (fun H locs w => ?_)
            have heo := en_of hE x0
            have hsm := sg_m (T := T) hE
            have hTE : sk T tn E = E → T (sk T tn E) = T E := fun h => by rw [h]
            exact e_v F w hr hlocks ⟨⟨hE, (st_ne (Or.inr (by omega))).trans ((st_ne (Or.inr (by omega))).trans x2), ((st_ne (Or.inr (by omega))).trans st_at).trans (congrArg zI (by omega)), (st_at).trans (by rw [(jn_0 (fun q => by have q1 := q.1; have q2 := q.2.1; have q3 := q.2.2.1; have q4 := q.2.2.2.1; have q5 := q.2.2.2.2; have q6 := hTE q1; unfold nbl at q3 q5; omega))]; rfl)⟩, (FrQ.to (FrQ.to x4 (by decide)) (by decide))⟩ rdX5_step_154
        · rw [hMe] at w
          refine z_if_eq (tgt := 150) hx hb (by omega) rdX5_step_126 (by decide) (fun c36 => ?_) (fun c36 => False.elim (by omega))
          refine lv_iconst (v := zI 0) hx hb rdX5_step_150 rfl ?_
          refine u_5_5 F w (a := 4) rfl (by decide) (by decide) rtb_34 rdX5_step_151 (fun H locs w => ?_)
          have heo := en_of hE x0
          have hsm := sg_m (T := T) hE
          have hTE : sk T tn E = E → T (sk T tn E) = T E := fun h => by rw [h]
          exact e_v F w hr hlocks ⟨⟨hE, (st_ne (Or.inr (by omega))).trans ((st_ne (Or.inr (by omega))).trans x2), ((st_ne (Or.inr (by omega))).trans st_at).trans (congrArg zI (by omega)), (st_at).trans (by rw [(jn_0 (fun q => by have q1 := q.1; have q2 := q.2.1; have q3 := q.2.2.1; have q4 := q.2.2.2.1; have q5 := q.2.2.2.2; have q6 := hTE q1; unfold nbl at q3 q5; omega))]; rfl)⟩, (FrQ.to (FrQ.to x4 (by decide)) (by decide))⟩ rdX5_step_154
