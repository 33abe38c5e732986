theorem dX12_in_0 : decode cX12_in 0 = .ok (.iload_n 0, 1) := rdX12_in_0
theorem dX12_in_1 : decode cX12_in 1 = .ok (.iload_n 1, 1) := rdX12_in_1
theorem dX12_in_2 : decode cX12_in 2 = .ok (.if_icmp .lt 12, 3) := rdX12_in_2
theorem dX12_in_14 : decode cX12_in 14 = .ok (.iconst 0, 1) := rdX12_in_14
theorem dX12_in_15 : decode cX12_in 15 = .ok (.ireturn, 1) := rdX12_in_15
theorem dX12_in_5 : decode cX12_in 5 = .ok (.iload_n 0, 1) := rdX12_in_5
theorem dX12_in_6 : decode cX12_in 6 = .ok (.iload_n 2, 1) := rdX12_in_6
theorem dX12_in_7 : decode cX12_in 7 = .ok (.if_icmp .gt 7, 3) := rdX12_in_7
theorem dX12_in_10 : decode cX12_in 10 = .ok (.iconst 1, 1) := rdX12_in_10
theorem dX12_in_11 : decode cX12_in 11 = .ok (.goto 4, 3) := rdX12_in_11
set_option maxRecDepth 4000 in
theorem s_X12_in {l : Launch} {D : va_G} {B : Nat} {cy : Nat → ClassId} {M : Mem} {v a b : Int} (hv : rg v) (ha : rg a) (hb1 : rg b) : Ci l D B cy yX12_in cX12_in 3 (some .boolean) 0 0 [.int (zI v), .int (zI a), .int (zI b)] M (fun r M1 => ((a ≤ v ∧ v ≤ b) ∧ r = zI 1 ∨ ¬ (a ≤ v ∧ v ≤ b) ∧ r = zI 0) ∧ M1 = M) := by
  refine s_any (by decide) (Nat.le_of_ble_eq_true rfl) ?_
  intro p e s m below meth c ls F hr hlocks w hl
  have F : CallFix p m c cX12_in 3 s _ TB RX12 := F
  have hx := F.1
  have hb := F.2.1
  have hl : lv_has ls 3 [(0, .int (zI v)), (1, .int (zI a)), (2, .int (zI b))] := hl
  refine lv_iload_n hx hb dX12_in_0 rfl (lv_at hl 0 rfl) ?_
  refine lv_iload_n hx hb dX12_in_1 rfl (lv_at hl 1 rfl) ?_
  refine z_icmp_lt (tgt := 14) hx hb (by omega) (by omega) dX12_in_2 (by decide) (fun c1 => ?_) (fun c1 => ?_)
  · refine lv_iconst (v := zI 0) hx hb dX12_in_14 rfl ?_
    exact e_z F w hr hlocks (by decide) ⟨Or.inr ⟨by omega, rfl⟩, rfl⟩ dX12_in_15
  · refine lv_iload_n hx hb dX12_in_5 rfl (lv_at hl 0 rfl) ?_
    refine lv_iload_n hx hb dX12_in_6 rfl (lv_at hl 2 rfl) ?_
    refine z_icmp_gt (tgt := 14) hx hb (by omega) (by omega) dX12_in_7 (by decide) (fun c2 => ?_) (fun c2 => ?_)
    · refine lv_iconst (v := zI 0) hx hb dX12_in_14 rfl ?_
      exact e_z F w hr hlocks (by decide) ⟨Or.inr ⟨by omega, rfl⟩, rfl⟩ dX12_in_15
    · refine lv_iconst (v := zI 1) hx hb dX12_in_10 rfl ?_
      refine lv_goto (tgt := 15) hx hb dX12_in_11 (by decide) ?_
      exact e_z F w hr hlocks (by decide) ⟨Or.inl ⟨by omega, rfl⟩, rfl⟩ dX12_in_15
theorem dX12_isIn_0 : decode cX12_isIn 0 = .ok (.iload_n 0, 1) := dq0 kk_26 (by decide +kernel)
theorem dX12_isIn_1 : decode cX12_isIn 1 = .ok (.iload_n 1, 1) := dq0 kk_27 (by decide +kernel)
theorem dX12_isIn_2 : decode cX12_isIn 2 = .ok (.ishr, 1) := dq0 kk_122 (by decide +kernel)
theorem dX12_isIn_3 : decode cX12_isIn 3 = .ok (.iconst 1, 1) := dq0 kk_4 (by decide +kernel)
theorem dX12_isIn_4 : decode cX12_isIn 4 = .ok (.iand, 1) := dq0 kk_126 (by decide +kernel)
theorem dX12_isIn_5 : decode cX12_isIn 5 = .ok (.iconst 1, 1) := dq0 kk_4 (by decide +kernel)
theorem dX12_isIn_6 : decode cX12_isIn 6 = .ok (.if_icmp .ne 7, 3) := dqT kk_160 (by decide +kernel)
theorem dX12_isIn_13 : decode cX12_isIn 13 = .ok (.iconst 0, 1) := dq0 kk_3 (by decide +kernel)
theorem dX12_isIn_14 : decode cX12_isIn 14 = .ok (.ireturn, 1) := dq0 kk_172 (by decide +kernel)
theorem dX12_isIn_9 : decode cX12_isIn 9 = .ok (.iconst 1, 1) := dq0 kk_4 (by decide +kernel)
theorem dX12_isIn_10 : decode cX12_isIn 10 = .ok (.goto 4, 3) := dqT kk_167 (by decide +kernel)
set_option maxRecDepth 4000 in
theorem s_X12_isIn {l : Launch} {D : va_G} {B : Nat} {cy : Nat → ClassId} {M : Mem} {m9 k : Nat} (hm : m9 < 4096) (hk : k < 32) : Ci l D B cy yX12_isIn cX12_isIn 2 (some .boolean) 0 0 [.int (zI (m9 : Int)), .int (zI (k : Int))] M (fun r M1 => ((m9.testBit k = true) ∧ r = zI 1 ∨ ¬ (m9.testBit k = true) ∧ r = zI 0) ∧ M1 = M) := by
  refine s_any (by decide) (Nat.le_of_ble_eq_true rfl) ?_
  intro p e s m below meth c ls F hr hlocks w hl
  have F : CallFix p m c cX12_isIn 2 s _ TB RX12 := F
  have hx := F.1
  have hb := F.2.1
  have hl : lv_has ls 2 [(0, .int (zI (m9 : Int))), (1, .int (zI (k : Int)))] := hl
  refine lv_iload_n hx hb dX12_isIn_0 rfl (lv_at hl 0 rfl) ?_
  refine lv_iload_n hx hb dX12_isIn_1 rfl (lv_at hl 1 rfl) ?_
  refine lv_ishr hx hb dX12_isIn_2 ?_
  refine r_val (v := (zI (((m9 >>> k) : Nat) : Int))) (zb_shr (a := m9) (n := k) (by omega) (by omega)) ?_
  have q1 := shr_le m9 k
  refine lv_iconst (v := zI 1) hx hb dX12_isIn_3 rfl ?_
  refine lv_iand hx hb dX12_isIn_4 ?_
  refine r_val (v := (zI (((tb m9 k) : Nat) : Int))) zb_tst ?_
  have q2 := tb01 m9 k
  refine lv_iconst (v := zI 1) hx hb dX12_isIn_5 rfl ?_
  refine z_icmp_ne (tgt := 13) hx hb (by omega) (by omega) dX12_isIn_6 (by decide) (fun c3 => ?_) (fun c3 => ?_)
  · refine lv_iconst (v := zI 0) hx hb dX12_isIn_13 rfl ?_
    exact e_z F w hr hlocks (by decide) ⟨Or.inr ⟨fun h9 => by have := tbo.mpr h9; omega, rfl⟩, rfl⟩ dX12_isIn_14
  · refine lv_iconst (v := zI 1) hx hb dX12_isIn_9 rfl ?_
    refine lv_goto (tgt := 14) hx hb dX12_isIn_10 (by decide) ?_
    exact e_z F w hr hlocks (by decide) ⟨Or.inl ⟨tbo.mp (by omega), rfl⟩, rfl⟩ dX12_isIn_14
theorem dX12_bitsOf_4 : decode cX12_bitsOf 4 = .ok (.iload_n 2, 1) := dq0 kk_28 (by decide +kernel)
theorem dX12_bitsOf_5 : decode cX12_bitsOf 5 = .ok (.ifCond .eq 15, 3) := dqT kk_153 (by decide +kernel)
theorem dX12_bitsOf_8 : decode cX12_bitsOf 8 = .ok (.iinc 1 1, 3) := dqI kk_132 (by decide +kernel)
theorem dX12_bitsOf_11 : decode cX12_bitsOf 11 = .ok (.iload_n 2, 1) := dq0 kk_28 (by decide +kernel)
theorem dX12_bitsOf_12 : decode cX12_bitsOf 12 = .ok (.iload_n 2, 1) := dq0 kk_28 (by decide +kernel)
theorem dX12_bitsOf_13 : decode cX12_bitsOf 13 = .ok (.iconst 1, 1) := dq0 kk_4 (by decide +kernel)
theorem dX12_bitsOf_14 : decode cX12_bitsOf 14 = .ok (.isub, 1) := dq0 kk_100 (by decide +kernel)
theorem dX12_bitsOf_15 : decode cX12_bitsOf 15 = .ok (.iand, 1) := dq0 kk_126 (by decide +kernel)
theorem dX12_bitsOf_16 : decode cX12_bitsOf 16 = .ok (.istore_n 2, 1) := dq0 kk_61 (by decide +kernel)
theorem dX12_bitsOf_17 : decode cX12_bitsOf 17 = .ok (.goto (-13), 3) := dqT kk_167 (by decide +kernel)
set_option maxRecDepth 4000 in
theorem lp_X12_bitsOf {p : Program} {l : Launch} {e : Env} {s : State} {m : MethodId} {args : Array Value} {below : List Frame} {meth : Method} {c : Code} {D : va_G} {B : Nat} {cy : Nat → ClassId} {H0 : Heap} {Q : State → Prop} {M : Mem} {R : Room} {m9 : Nat} (F : CallFix p m c cX12_bitsOf 3 s args TB RX12) (hR1 : 0 ≤ R.frames) (hR2 : 0 ≤ R.locals) (hm : m9 < 4096) (kk : ∀ (x : Nat) (y : Nat) (H : Heap) (locs : List Loc) (ls : Array Slot), (y = pop m9) → Wd D B cy s H0 M H locs → lv_has ls 3 [(2, .int (zI (x : Int))), (1, .int (zI (y : Int)))] → W p l e R s m args below meth c H locs 0 0 Q (F0 m 20 ls [])) : ∀ (f : Nat) (x : Nat) (y : Nat), (x < 4096) → (y + pop x = pop m9) → (pop x ≤ f) → ∀ (H : Heap) (locs : List Loc) (ls : Array Slot), Wd D B cy s H0 M H locs → lv_has ls 3 [(2, .int (zI (x : Int))), (1, .int (zI (y : Int)))] → W p l e R s m args below meth c H locs 0 0 Q (F0 m 4 ls []) := by
  have hx := F.1
  have hb := F.2.1
  intro f
  induction f with
  | zero =>
    intro x y i0 i1 hf H locs ls w hl
    have hz9 := (pop_le x i0).2
    refine lv_iload_n hx hb dX12_bitsOf_4 rfl (lv_at hl 0 rfl) ?_
    refine z_if_eq (tgt := 20) hx hb (by omega) dX12_bitsOf_5 (by decide) (fun c1 => ?_) (fun c1 => False.elim (by omega))
    exact kk x y _ _ ls (pop_0 (by omega) i1) w (lv_sub hl [0, 1] rfl)
  | succ f ih =>
    intro x y i0 i1 hf H locs ls w hl
    have hz9 := (pop_le x i0).2
    refine lv_iload_n hx hb dX12_bitsOf_4 rfl (lv_at hl 0 rfl) ?_
    refine z_if_eq (tgt := 20) hx hb (by omega) dX12_bitsOf_5 (by decide) (fun c1 => ?_) (fun c1 => ?_)
    · exact kk x y _ _ ls (pop_0 (by omega) i1) w (lv_sub hl [0, 1] rfl)
    · refine z_iinc (v := (((y + 1) : Nat) : Int)) (lv' := [(1, .int (zI (((y + 1) : Nat) : Int))), (2, .int (zI (x : Int)))]) hx hb dX12_bitsOf_8 hl (k := 1) rfl (by omega) (by decide) rfl (fun ls hl => ?_)
      refine lv_iload_n hx hb dX12_bitsOf_11 rfl (lv_at hl 1 rfl) ?_
      refine lv_iload_n hx hb dX12_bitsOf_12 rfl (lv_at hl 1 rfl) ?_
      refine lv_iconst (v := zI 1) hx hb dX12_bitsOf_13 rfl ?_
      refine z_isub (z := ((x : Int) - 1)) hx hb dX12_bitsOf_14 (by omega) ?_
      refine r_val (v := (zI (((x - 1) : Nat) : Int))) (congrArg zI (by omega)) ?_
      refine lv_iand hx hb dX12_bitsOf_15 ?_
      refine r_val (v := (zI (((x &&& (x - 1)) : Nat) : Int))) (zb_and x (x - 1)) ?_
      have q2 := (Nat.and_le_left : x &&& (x - 1) ≤ _)
      refine lv_istore_n (lv' := [(2, .int (zI (((x &&& (x - 1)) : Nat) : Int))), (1, .int (zI (((y + 1) : Nat) : Int)))]) hx hb dX12_bitsOf_16 rfl hl (by decide) rfl (fun ls hl => ?_)
      refine lv_goto (tgt := 4) hx hb dX12_bitsOf_17 (by decide) ?_
      have hpd := pop_dec x i0 (by omega)
      exact ih (x &&& (x - 1)) (y + 1) (by omega) (pop_step (by omega) (by omega) i1) (by omega) _ _ ls w (lv_sub hl [0, 1] rfl)
theorem dX12_bitsOf_0 : decode cX12_bitsOf 0 = .ok (.iconst 0, 1) := dq0 kk_3 (by decide +kernel)
theorem dX12_bitsOf_1 : decode cX12_bitsOf 1 = .ok (.istore_n 1, 1) := dq0 kk_60 (by decide +kernel)
theorem dX12_bitsOf_2 : decode cX12_bitsOf 2 = .ok (.iload_n 0, 1) := dq0 kk_26 (by decide +kernel)
theorem dX12_bitsOf_3 : decode cX12_bitsOf 3 = .ok (.istore_n 2, 1) := dq0 kk_61 (by decide +kernel)
theorem dX12_bitsOf_20 : decode cX12_bitsOf 20 = .ok (.iload_n 1, 1) := dq0 kk_27 (by decide +kernel)
theorem dX12_bitsOf_21 : decode cX12_bitsOf 21 = .ok (.ireturn, 1) := dq0 kk_172 (by decide +kernel)
set_option maxRecDepth 4000 in
theorem s_X12_bitsOf {l : Launch} {D : va_G} {B : Nat} {cy : Nat → ClassId} {M : Mem} {m9 : Nat} (hm : m9 < 4096) : Ci l D B cy yX12_bitsOf cX12_bitsOf 3 (some .int) 0 0 [.int (zI (m9 : Int))] M (fun r M1 => r = zI ((pop m9 : Nat) : Int) ∧ M1 = M) := by
  refine s_any (by decide) (Nat.le_of_ble_eq_true rfl) ?_
  intro p e s m below meth c ls F hr hlocks w hl
  have F : CallFix p m c cX12_bitsOf 3 s _ TB RX12 := F
  have hx := F.1
  have hb := F.2.1
  have hl : lv_has ls 3 [(0, .int (zI (m9 : Int)))] := hl
  refine lv_iconst (v := zI 0) hx hb dX12_bitsOf_0 rfl ?_
  refine lv_istore_n (lv' := [(1, .int (zI 0)), (0, .int (zI (m9 : Int)))]) hx hb dX12_bitsOf_1 rfl hl (by decide) rfl (fun ls hl => ?_)
  refine lv_iload_n hx hb dX12_bitsOf_2 rfl (lv_at hl 1 rfl) ?_
  refine lv_istore_n (lv' := [(2, .int (zI (m9 : Int))), (1, .int (zI 0)), (0, .int (zI (m9 : Int)))]) hx hb dX12_bitsOf_3 rfl hl (by decide) rfl (fun ls hl => ?_)
  refine lp_X12_bitsOf  F (Nat.le_of_ble_eq_true rfl) (Nat.le_of_ble_eq_true rfl) hm (fun x y H locs ls x0 w hl => ?_) (pop m9) m9 0 hm (by omega) (by omega) _ _ ls w (lv_sub hl [0, 1] rfl)
  subst x0
  refine lv_iload_n hx hb dX12_bitsOf_20 rfl (lv_at hl 1 rfl) ?_
  exact e_i F w hr hlocks ⟨rfl, rfl⟩ dX12_bitsOf_21
theorem dX12_firstOf_8 : decode cX12_firstOf 8 = .ok (.iload_n 0, 1) := dq0 kk_26 (by decide +kernel)
theorem dX12_firstOf_9 : decode cX12_firstOf 9 = .ok (.iload_n 1, 1) := dq0 kk_27 (by decide +kernel)
theorem dX12_firstOf_10 : decode cX12_firstOf 10 = .ok (.invokestatic 51, 3) := dqV kk_184 (by decide +kernel)
theorem tk_X12_isIn : Cond.code yX12_isIn cX12_isIn 2 (some .boolean) ∈ TB := tbm (tc5 (List.mem_of_getElem? (i := 188) rfl)) rfl
theorem gc_X12_isIn : GoodIn TB (cw yX12_isIn cX12_isIn 2 (some .boolean)) := goodIn_c2 tk_X12_isIn
theorem tb_36 : Cond.methodLink "ToneLinesModel" 51 yX12_isIn ∈ TB := tbm (tc5 (List.mem_of_getElem? (i := 186) rfl)) rfl
theorem tb_37 : Cond.static yX12_isIn ∈ TB := tbm (tc5 (List.mem_of_getElem? (i := 187) rfl)) rfl
theorem tb_38 : Cond.initialized "ToneLinesModel" ∈ TB := rtb_119
theorem gs_X12_51 : GoodIn TB (va_wsS RX12 51 yX12_isIn (cw yX12_isIn cX12_isIn 2 (some .boolean))) := goodIn_3 tb_36 tb_37 tb_38 gc_X12_isIn
theorem hs_X12_isIn : yX12_isIn.cls ≠ "java/lang/invoke/MethodHandle" ∧ yX12_isIn.cls ≠ "java/lang/invoke/VarHandle" ∧ (parseMethodDescriptor yX12_isIn.desc).map (fun d => d.parameters.length) = some 2 := by decide +kernel
theorem dX12_firstOf_13 : decode cX12_firstOf 13 = .ok (.ifCond .ne 9, 3) := dqT kk_154 (by decide +kernel)
theorem dX12_firstOf_16 : decode cX12_firstOf 16 = .ok (.iinc 1 1, 3) := dqI kk_132 (by decide +kernel)
theorem dX12_firstOf_19 : decode cX12_firstOf 19 = .ok (.goto (-11), 3) := dqT kk_167 (by decide +kernel)
set_option maxRecDepth 4000 in
theorem lp_X12_firstOf {p : Program} {l : Launch} {e : Env} {s : State} {m : MethodId} {args : Array Value} {below : List Frame} {meth : Method} {c : Code} {D : va_G} {B : Nat} {cy : Nat → ClassId} {H0 : Heap} {Q : State → Prop} {M : Mem} {R : Room} {m9 : Nat} (F : CallFix p m c cX12_firstOf 2 s args TB RX12) (hR1 : 1 ≤ R.frames) (hR2 : 21 ≤ R.locals) (hm : m9 < 4096) (hm0 : m9 ≠ 0) (kk : ∀ (k : Nat) (H : Heap) (locs : List Loc) (ls : Array Slot), ((k : Int) = lowI m9) → Wd D B cy s H0 M H locs → lv_has ls 2 [(1, .int (zI (k : Int))), (0, .int (zI (m9 : Int)))] → W p l e R s m args below meth c H locs 0 0 Q (F0 m 22 ls [])) : ∀ (f : Nat) (k : Nat), (k ≤ low m9) → (∀ i, i < k → m9.testBit i = false) → (low m9 ≤ k + f) → ∀ (H : Heap) (locs : List Loc) (ls : Array Slot), Wd D B cy s H0 M H locs → lv_has ls 2 [(1, .int (zI (k : Int))), (0, .int (zI (m9 : Int)))] → W p l e R s m args below meth c H locs 0 0 Q (F0 m 8 ls []) := by
  have hx := F.1
  have hb := F.2.1
  have hl12 := low12 hm hm0
  intro f
  induction f with
  | zero =>
    intro k i0 i1 hf H locs ls w hl
    refine lv_iload_n hx hb dX12_firstOf_8 rfl (lv_at hl 1 rfl) ?_
    refine lv_iload_n hx hb dX12_firstOf_9 rfl (lv_at hl 0 rfl) ?_
    refine k_Si F w (As := [.int (zI (m9 : Int)), .int (zI (k : Int))]) (rest := []) (s_X12_isIn (m9 := m9) (k := k) (by omega) (by omega)) gs_X12_51 hs_X12_isIn ⟨(by omega), (by omega)⟩ hl.1 rfl (Nat.le_of_ble_eq_true rfl) ⟨Nat.zero_le _, Nat.zero_le _⟩ dX12_firstOf_10 (fun r M1 H locs hp w => ?_)
    rcases hp with ⟨⟨hb1, rfl⟩ | ⟨hb1, rfl⟩, hMe⟩
    · rw [hMe] at w
      refine z_if_ne (tgt := 22) hx hb (by omega) dX12_firstOf_13 (by decide) (fun c2 => ?_) (fun c2 => False.elim (by omega))
      exact kk k _ _ ls (low_is hm (by assumption) i1) w (lv_sub hl [0, 1] rfl)
    · rw [hMe] at w
      refine z_if_ne (tgt := 22) hx hb (by omega) dX12_firstOf_13 (by decide) (fun c3 => False.elim (by omega)) (fun c3 => ?_)
      refine z_iinc (v := (((k + 1) : Nat) : Int)) (lv' := [(1, .int (zI (((k + 1) : Nat) : Int))), (0, .int (zI (m9 : Int)))]) hx hb dX12_firstOf_16 hl (k := 0) rfl (by omega) (by decide) rfl (fun ls hl => ?_)
      refine lv_goto (tgt := 8) hx hb dX12_firstOf_19 (by decide) ?_
      exact False.elim (by have h9 := low_go hm hm0 i0 (by assumption); omega)
  | succ f ih =>
    intro k i0 i1 hf H locs ls w hl
    refine lv_iload_n hx hb dX12_firstOf_8 rfl (lv_at hl 1 rfl) ?_
    refine lv_iload_n hx hb dX12_firstOf_9 rfl (lv_at hl 0 rfl) ?_
    refine k_Si F w (As := [.int (zI (m9 : Int)), .int (zI (k : Int))]) (rest := []) (s_X12_isIn (m9 := m9) (k := k) (by omega) (by omega)) gs_X12_51 hs_X12_isIn ⟨(by omega), (by omega)⟩ hl.1 rfl (Nat.le_of_ble_eq_true rfl) ⟨Nat.zero_le _, Nat.zero_le _⟩ dX12_firstOf_10 (fun r M1 H locs hp w => ?_)
    rcases hp with ⟨⟨hb1, rfl⟩ | ⟨hb1, rfl⟩, hMe⟩
    · rw [hMe] at w
      refine z_if_ne (tgt := 22) hx hb (by omega) dX12_firstOf_13 (by decide) (fun c2 => ?_) (fun c2 => False.elim (by omega))
      exact kk k _ _ ls (low_is hm (by assumption) i1) w (lv_sub hl [0, 1] rfl)
    · rw [hMe] at w
      refine z_if_ne (tgt := 22) hx hb (by omega) dX12_firstOf_13 (by decide) (fun c3 => False.elim (by omega)) (fun c3 => ?_)
      refine z_iinc (v := (((k + 1) : Nat) : Int)) (lv' := [(1, .int (zI (((k + 1) : Nat) : Int))), (0, .int (zI (m9 : Int)))]) hx hb dX12_firstOf_16 hl (k := 0) rfl (by omega) (by decide) rfl (fun ls hl => ?_)
      refine lv_goto (tgt := 8) hx hb dX12_firstOf_19 (by decide) ?_
      exact ih (k + 1) (low_go hm hm0 i0 (by assumption)) (fun i hi => by by_cases h9 : i = k; (subst h9; exact nb (by assumption)); exact i1 i (by omega)) (by omega) _ _ ls w (lv_sub hl [0, 1] rfl)
theorem dX12_firstOf_0 : decode cX12_firstOf 0 = .ok (.iload_n 0, 1) := dq0 kk_26 (by decide +kernel)
theorem dX12_firstOf_1 : decode cX12_firstOf 1 = .ok (.ifCond .ne 5, 3) := dqT kk_154 (by decide +kernel)
theorem dX12_firstOf_6 : decode cX12_firstOf 6 = .ok (.iconst 0, 1) := dq0 kk_3 (by decide +kernel)
theorem dX12_firstOf_7 : decode cX12_firstOf 7 = .ok (.istore_n 1, 1) := dq0 kk_60 (by decide +kernel)
theorem dX12_firstOf_22 : decode cX12_firstOf 22 = .ok (.iload_n 1, 1) := dq0 kk_27 (by decide +kernel)
theorem dX12_firstOf_23 : decode cX12_firstOf 23 = .ok (.ireturn, 1) := dq0 kk_172 (by decide +kernel)
theorem dX12_firstOf_4 : decode cX12_firstOf 4 = .ok (.iconst (-1), 1) := dq0 kk_2 (by decide +kernel)
theorem dX12_firstOf_5 : decode cX12_firstOf 5 = .ok (.ireturn, 1) := dq0 kk_172 (by decide +kernel)
set_option maxRecDepth 4000 in
theorem s_X12_firstOf {l : Launch} {D : va_G} {B : Nat} {cy : Nat → ClassId} {M : Mem} {m9 : Nat} (hm : m9 < 4096) : Ci l D B cy yX12_firstOf cX12_firstOf 2 (some .int) 1 21 [.int (zI (m9 : Int))] M (fun r M1 => r = zI (lowI m9) ∧ M1 = M) := by
  refine s_any (by decide) (Nat.le_of_ble_eq_true rfl) ?_
  intro p e s m below meth c ls F hr hlocks w hl
  have F : CallFix p m c cX12_firstOf 2 s _ TB RX12 := F
  have hx := F.1
  have hb := F.2.1
  have hl : lv_has ls 2 [(0, .int (zI (m9 : Int)))] := hl
  refine lv_iload_n hx hb dX12_firstOf_0 rfl (lv_at hl 0 rfl) ?_
  refine z_if_ne (tgt := 6) hx hb (by omega) dX12_firstOf_1 (by decide) (fun c1 => ?_) (fun c1 => ?_)
  · refine lv_iconst (v := zI 0) hx hb dX12_firstOf_6 rfl ?_
    refine lv_istore_n (lv' := [(1, .int (zI 0)), (0, .int (zI (m9 : Int)))]) hx hb dX12_firstOf_7 rfl hl (by decide) rfl (fun ls hl => ?_)
    refine lp_X12_firstOf  F (Nat.le_of_ble_eq_true rfl) (Nat.le_of_ble_eq_true rfl) hm (by omega) (fun k H locs ls x0 w hl => ?_) (low m9) 0 (by omega) (fun i hi => absurd hi (Nat.not_lt_zero i)) (by omega) _ _ ls w (lv_sub hl [0, 1] rfl)
    refine lv_iload_n hx hb dX12_firstOf_22 rfl (lv_at hl 0 rfl) ?_
    exact e_i F w hr hlocks ⟨congrArg zI x0, rfl⟩ dX12_firstOf_23
  · refine lv_iconst (v := zI (-1)) hx hb dX12_firstOf_4 rfl ?_
    exact e_i F w hr hlocks ⟨by rw [lowI_0 (by omega)], rfl⟩ dX12_firstOf_5
theorem dX12_lastOf_3 : decode cX12_lastOf 3 = .ok (.iload_n 1, 1) := dq0 kk_27 (by decide +kernel)
theorem dX12_lastOf_4 : decode cX12_lastOf 4 = .ok (.ifCond .lt 17, 3) := dqT kk_155 (by decide +kernel)
theorem dX12_lastOf_21 : decode cX12_lastOf 21 = .ok (.iload_n 1, 1) := dq0 kk_27 (by decide +kernel)
theorem dX12_lastOf_22 : decode cX12_lastOf 22 = .ok (.ireturn, 1) := dq0 kk_172 (by decide +kernel)
theorem dX12_lastOf_7 : decode cX12_lastOf 7 = .ok (.iload_n 0, 1) := dq0 kk_26 (by decide +kernel)
theorem dX12_lastOf_8 : decode cX12_lastOf 8 = .ok (.iload_n 1, 1) := dq0 kk_27 (by decide +kernel)
theorem dX12_lastOf_9 : decode cX12_lastOf 9 = .ok (.invokestatic 51, 3) := dqV kk_184 (by decide +kernel)
theorem dX12_lastOf_12 : decode cX12_lastOf 12 = .ok (.ifCond .ne 9, 3) := dqT kk_154 (by decide +kernel)
theorem dX12_lastOf_15 : decode cX12_lastOf 15 = .ok (.iinc 1 (-1), 3) := dqI kk_132 (by decide +kernel)
theorem dX12_lastOf_18 : decode cX12_lastOf 18 = .ok (.goto (-15), 3) := dqT kk_167 (by decide +kernel)
set_option maxRecDepth 4000 in
theorem lp_X12_lastOf {p : Program} {l : Launch} {e : Env} {s : State} {m : MethodId} {args : Array Value} {below : List Frame} {meth : Method} {c : Code} {D : va_G} {B : Nat} {cy : Nat → ClassId}  {M : Mem} {R : Room} {m9 : Nat} (F : CallFix p m c cX12_lastOf 2 s args TB RX12) (hr : meth.sig.returnType = (some .int)) (hlocks : meth.locks = false) (hR1 : 1 ≤ R.frames) (hR2 : 21 ≤ R.locals) (hm : m9 < 4096) : ∀ (k : Nat), (k ≤ 13) → (∀ i, k ≤ i → m9.testBit i = false) → ∀ (H : Heap) (locs : List Loc) (ls : Array Slot), Wd D B cy s s.heap M H locs → lv_has ls 2 [(1, .int (zI ((k : Int) - 1))), (0, .int (zI (m9 : Int)))] → W p l e R s m args below meth c H locs 0 0 (MQ below (va_Qi (fun r M1 => r = zI (higI m9) ∧ M1 = M) (fun M2 t2 => Wp D B cy M2 t2) (fun q2 => B ≤ q2)) args s 0 0 (fun q2 => B ≤ q2)) (F0 m 3 ls []) := by
  have hx := F.1
  have hb := F.2.1
  intro k
  induction k with
  | zero =>
    intro i0 i1 H locs ls w hl
    have hl : lv_has ls 2 [(1, .int (zI (-1))), (0, .int (zI (m9 : Int)))] := hl
    refine lv_iload_n hx hb dX12_lastOf_3 rfl (lv_at hl 0 rfl) ?_
    refine z_if_lt (tgt := 21) hx hb (by omega) dX12_lastOf_4 (by decide) (fun c1 => ?_) (fun c1 => False.elim (by omega))
    refine lv_iload_n hx hb dX12_lastOf_21 rfl (lv_at hl 0 rfl) ?_
    exact e_i F w hr hlocks ⟨congrArg zI (higI_0 (fun i => i1 i (by omega))).symm, rfl⟩ dX12_lastOf_22
  | succ k ih =>
    intro i0 i1 H locs ls w hl
    have hl : lv_has ls 2 [(1, .int (zI (k : Int))), (0, .int (zI (m9 : Int)))] := by rw [show ((k + 1 : Nat) : Int) - 1 = (k : Int) by omega] at hl; exact hl
    refine lv_iload_n hx hb dX12_lastOf_3 rfl (lv_at hl 0 rfl) ?_
    refine z_if_lt (tgt := 21) hx hb (by omega) dX12_lastOf_4 (by decide) (fun c1 => False.elim (by omega)) (fun c1 => ?_)
    refine lv_iload_n hx hb dX12_lastOf_7 rfl (lv_at hl 1 rfl) ?_
    refine lv_iload_n hx hb dX12_lastOf_8 rfl (lv_at hl 0 rfl) ?_
    refine k_Si F w (As := [.int (zI (m9 : Int)), .int (zI (k : Int))]) (rest := []) (s_X12_isIn (m9 := m9) (k := k) (by omega) (by omega)) gs_X12_51 hs_X12_isIn ⟨(by omega), (by omega)⟩ hl.1 rfl (Nat.le_of_ble_eq_true rfl) ⟨Nat.zero_le _, Nat.zero_le _⟩ dX12_lastOf_9 (fun r M1 H locs hp w => ?_)
    rcases hp with ⟨⟨hb2, rfl⟩ | ⟨hb2, rfl⟩, hMe⟩
    · rw [hMe] at w
      refine z_if_ne (tgt := 21) hx hb (by omega) dX12_lastOf_12 (by decide) (fun c3 => ?_) (fun c3 => False.elim (by omega))
      refine lv_iload_n hx hb dX12_lastOf_21 rfl (lv_at hl 0 rfl) ?_
      exact e_i F w hr hlocks ⟨congrArg zI (higI_1 hm (bit_lt12 hm (by assumption)) (by assumption) i1).symm, rfl⟩ dX12_lastOf_22
    · rw [hMe] at w
      refine z_if_ne (tgt := 21) hx hb (by omega) dX12_lastOf_12 (by decide) (fun c4 => False.elim (by omega)) (fun c4 => ?_)
      refine z_iinc (v := ((k : Int) - 1)) (lv' := [(1, .int (zI ((k : Int) - 1))), (0, .int (zI (m9 : Int)))]) hx hb dX12_lastOf_15 hl (k := 0) rfl (by omega) (by decide) rfl (fun ls hl => ?_)
      refine lv_goto (tgt := 3) hx hb dX12_lastOf_18 (by decide) ?_
      exact ih (by omega) (fun i hi => by by_cases h9 : i = k; (subst h9; exact nb (by assumption)); exact i1 i (by omega)) _ _ ls w (lv_sub hl [0, 1] rfl)
theorem dX12_lastOf_0 : decode cX12_lastOf 0 = .ok (.bipush 12, 2) := dqS kk_16 (by decide +kernel)
theorem dX12_lastOf_2 : decode cX12_lastOf 2 = .ok (.istore_n 1, 1) := dq0 kk_60 (by decide +kernel)
set_option maxRecDepth 4000 in
theorem s_X12_lastOf {l : Launch} {D : va_G} {B : Nat} {cy : Nat → ClassId} {M : Mem} {m9 : Nat} (hm : m9 < 4096) : Ci l D B cy yX12_lastOf cX12_lastOf 2 (some .int) 1 21 [.int (zI (m9 : Int))] M (fun r M1 => r = zI (higI m9) ∧ M1 = M) := by
  refine s_any (by decide) (Nat.le_of_ble_eq_true rfl) ?_
  intro p e s m below meth c ls F hr hlocks w hl
  have F : CallFix p m c cX12_lastOf 2 s _ TB RX12 := F
  have hx := F.1
  have hb := F.2.1
  have hl : lv_has ls 2 [(0, .int (zI (m9 : Int)))] := hl
  refine lv_bipush (v := zI 12) hx hb dX12_lastOf_0 (by decide) ?_
  refine lv_istore_n (lv' := [(1, .int (zI 12)), (0, .int (zI (m9 : Int)))]) hx hb dX12_lastOf_2 rfl hl (by decide) rfl (fun ls hl => ?_)
  exact lp_X12_lastOf F hr hlocks (Nat.le_of_ble_eq_true rfl) (Nat.le_of_ble_eq_true rfl) hm 13 (by omega) (fun i hi => hig_out hm (by omega)) _ _ ls w (lv_sub hl [0, 1] rfl)
theorem dX12_isTone_0 : decode cX12_isTone 0 = .ok (.iload_n 1, 1) := dq0 kk_27 (by decide +kernel)
theorem dX12_isTone_1 : decode cX12_isTone 1 = .ok (.iconst 0, 1) := dq0 kk_3 (by decide +kernel)
theorem dX12_isTone_2 : decode cX12_isTone 2 = .ok (.aload_n 0, 1) := dq0 kk_42 (by decide +kernel)
theorem dX12_isTone_3 : decode cX12_isTone 3 = .ok (.iconst 0, 1) := dq0 kk_3 (by decide +kernel)
theorem dX12_isTone_4 : decode cX12_isTone 4 = .ok (.iaload, 1) := dq0 kk_46 (by decide +kernel)
theorem dX12_isTone_5 : decode cX12_isTone 5 = .ok (.iconst 1, 1) := dq0 kk_4 (by decide +kernel)
theorem dX12_isTone_6 : decode cX12_isTone 6 = .ok (.isub, 1) := dq0 kk_100 (by decide +kernel)
theorem dX12_isTone_7 : decode cX12_isTone 7 = .ok (.invokestatic 55, 3) := dqV kk_184 (by decide +kernel)
theorem tk_X12_in : Cond.code yX12_in cX12_in 3 (some .boolean) ∈ TB := rtk_X12_in
theorem gc_X12_in : GoodIn TB (cw yX12_in cX12_in 3 (some .boolean)) := goodIn_c2 tk_X12_in
theorem tb_39 : Cond.methodLink "ToneLinesModel" 55 yX12_in ∈ TB := rtb_117
theorem tb_40 : Cond.static yX12_in ∈ TB := rtb_118
theorem gs_X12_55 : GoodIn TB (va_wsS RX12 55 yX12_in (cw yX12_in cX12_in 3 (some .boolean))) := goodIn_3 tb_39 tb_40 tb_38 gc_X12_in
theorem hs_X12_in : yX12_in.cls ≠ "java/lang/invoke/MethodHandle" ∧ yX12_in.cls ≠ "java/lang/invoke/VarHandle" ∧ (parseMethodDescriptor yX12_in.desc).map (fun d => d.parameters.length) = some 3 := rhs_X12_in
theorem dX12_isTone_10 : decode cX12_isTone 10 = .ok (.ireturn, 1) := dq0 kk_172 (by decide +kernel)
set_option maxRecDepth 4000 in
theorem s_X12_isTone {l : Launch} {D : va_G} {B : Nat} {cy : Nat → ClassId} {M : Mem} {a n q hv ed : Nat} {K L : Nat → Nat} (hk : kd a = (22, 28, 0)) (hW : isR M a n q hv ed K L) (hwf : wf n q hv ed K L) {t : Int} (ht : rg t) : Ci l D B cy yX12_isTone cX12_isTone 2 (some .boolean) 1 22 [.ref (B + a), .int (zI t)] M (fun r M1 => ((∃ k : Nat, t = (k : Int) ∧ k < n ∧ r = zI 1) ∨ (¬ (0 ≤ t ∧ t < (n : Int)) ∧ r = zI 0)) ∧ M1 = M) := by
  refine s_any (by decide) (Nat.le_of_ble_eq_true rfl) ?_
  intro p e s m below meth c ls F hr hlocks w hl
  have F : CallFix p m c cX12_isTone 2 s _ TB RX12 := F
  have hx := F.1
  have hb := F.2.1
  have hl : lv_has ls 2 [(0, .ref (B + a)), (1, .int (zI t))] := hl
  have hwf0 := hwf
  obtain ⟨hn, hq, hhv, hed, hKL⟩ := hwf0
  refine lv_iload_n hx hb dX12_isTone_0 rfl (lv_at hl 1 rfl) ?_
  refine lv_iconst (v := zI 0) hx hb dX12_isTone_1 rfl ?_
  refine lv_aload_n hx hb dX12_isTone_2 rfl (lv_at hl 0 rfl) ?_
  refine lv_iconst (v := zI 0) hx hb dX12_isTone_3 rfl ?_
  refine g_iald F w (a := a) hk (j := 0) ⟨by decide, by decide⟩ (by omega) dX12_isTone_4 ?_
  refine r_val (v := (zI (n : Int))) (hW.1) ?_
  refine lv_iconst (v := zI 1) hx hb dX12_isTone_5 rfl ?_
  refine z_isub (z := ((n : Int) - 1)) hx hb dX12_isTone_6 (by omega) ?_
  refine k_Si F w (As := [.int (zI t), .int (zI 0), .int (zI ((n : Int) - 1))]) (rest := []) (s_X12_in (v := t) (a := 0) (b := ((n : Int) - 1)) (by omega) (by omega) (by omega)) gs_X12_55 hs_X12_in ⟨(Nat.le_of_ble_eq_true rfl), (Nat.le_of_ble_eq_true rfl)⟩ hl.1 rfl (Nat.le_of_ble_eq_true rfl) ⟨Nat.zero_le _, Nat.zero_le _⟩ dX12_isTone_7 (fun r M1 H locs hp w => ?_)
  rcases hp with ⟨⟨hb1, rfl⟩ | ⟨hb1, rfl⟩, hMe⟩
  · rw [hMe] at w
    exact e_z F w hr hlocks (by decide) ⟨Or.inl ⟨t.toNat, by omega, by omega, rfl⟩, rfl⟩ dX12_isTone_10
  · rw [hMe] at w
    exact e_z F w hr hlocks (by decide) ⟨Or.inr ⟨by omega, rfl⟩, rfl⟩ dX12_isTone_10
theorem dX12_isSyllable_0 : decode cX12_isSyllable 0 = .ok (.iload_n 1, 1) := dq0 kk_27 (by decide +kernel)
theorem dX12_isSyllable_1 : decode cX12_isSyllable 1 = .ok (.iconst 0, 1) := dq0 kk_3 (by decide +kernel)
theorem dX12_isSyllable_2 : decode cX12_isSyllable 2 = .ok (.aload_n 0, 1) := dq0 kk_42 (by decide +kernel)
theorem dX12_isSyllable_3 : decode cX12_isSyllable 3 = .ok (.bipush 25, 2) := dqS kk_16 (by decide +kernel)
theorem dX12_isSyllable_5 : decode cX12_isSyllable 5 = .ok (.iaload, 1) := dq0 kk_46 (by decide +kernel)
theorem dX12_isSyllable_6 : decode cX12_isSyllable 6 = .ok (.iconst 1, 1) := dq0 kk_4 (by decide +kernel)
theorem dX12_isSyllable_7 : decode cX12_isSyllable 7 = .ok (.isub, 1) := dq0 kk_100 (by decide +kernel)
theorem dX12_isSyllable_8 : decode cX12_isSyllable 8 = .ok (.invokestatic 55, 3) := dqV kk_184 (by decide +kernel)
theorem dX12_isSyllable_11 : decode cX12_isSyllable 11 = .ok (.ireturn, 1) := dq0 kk_172 (by decide +kernel)
set_option maxRecDepth 4000 in
theorem s_X12_isSyllable {l : Launch} {D : va_G} {B : Nat} {cy : Nat → ClassId} {M : Mem} {a n q hv ed : Nat} {K L : Nat → Nat} (hk : kd a = (22, 28, 0)) (hW : isR M a n q hv ed K L) (hwf : wf n q hv ed K L) {t : Int} (ht : rg t) : Ci l D B cy yX12_isSyllable cX12_isSyllable 2 (some .boolean) 1 22 [.ref (B + a), .int (zI t)] M (fun r M1 => ((∃ k : Nat, t = (k : Int) ∧ k < q ∧ r = zI 1) ∨ (¬ (0 ≤ t ∧ t < (q : Int)) ∧ r = zI 0)) ∧ M1 = M) := by
  refine s_any (by decide) (Nat.le_of_ble_eq_true rfl) ?_
  intro p e s m below meth c ls F hr hlocks w hl
  have F : CallFix p m c cX12_isSyllable 2 s _ TB RX12 := F
  have hx := F.1
  have hb := F.2.1
  have hl : lv_has ls 2 [(0, .ref (B + a)), (1, .int (zI t))] := hl
  have hwf0 := hwf
  obtain ⟨hn, hq, hhv, hed, hKL⟩ := hwf0
  refine lv_iload_n hx hb dX12_isSyllable_0 rfl (lv_at hl 1 rfl) ?_
  refine lv_iconst (v := zI 0) hx hb dX12_isSyllable_1 rfl ?_
  refine lv_aload_n hx hb dX12_isSyllable_2 rfl (lv_at hl 0 rfl) ?_
  refine lv_bipush (v := zI 25) hx hb dX12_isSyllable_3 (by decide) ?_
  refine g_iald F w (a := a) hk (j := 25) ⟨by decide, by decide⟩ (by omega) dX12_isSyllable_5 ?_
  refine r_val (v := (zI (q : Int))) (hW.2.1) ?_
  refine lv_iconst (v := zI 1) hx hb dX12_isSyllable_6 rfl ?_
  refine z_isub (z := ((q : Int) - 1)) hx hb dX12_isSyllable_7 (by omega) ?_
  refine k_Si F w (As := [.int (zI t), .int (zI 0), .int (zI ((q : Int) - 1))]) (rest := []) (s_X12_in (v := t) (a := 0) (b := ((q : Int) - 1)) (by omega) (by omega) (by omega)) gs_X12_55 hs_X12_in ⟨(Nat.le_of_ble_eq_true rfl), (Nat.le_of_ble_eq_true rfl)⟩ hl.1 rfl (Nat.le_of_ble_eq_true rfl) ⟨Nat.zero_le _, Nat.zero_le _⟩ dX12_isSyllable_8 (fun r M1 H locs hp w => ?_)
  rcases hp with ⟨⟨hb1, rfl⟩ | ⟨hb1, rfl⟩, hMe⟩
  · rw [hMe] at w
    exact e_z F w hr hlocks (by decide) ⟨Or.inl ⟨t.toNat, by omega, by omega, rfl⟩, rfl⟩ dX12_isSyllable_11
  · rw [hMe] at w
    exact e_z F w hr hlocks (by decide) ⟨Or.inr ⟨by omega, rfl⟩, rfl⟩ dX12_isSyllable_11
theorem dX12_tonesOf_4 : decode cX12_tonesOf 4 = .ok (.iload_n 3, 1) := dq0 kk_29 (by decide +kernel)
theorem dX12_tonesOf_5 : decode cX12_tonesOf 5 = .ok (.aload_n 0, 1) := dq0 kk_42 (by decide +kernel)
theorem dX12_tonesOf_6 : decode cX12_tonesOf 6 = .ok (.iconst 0, 1) := dq0 kk_3 (by decide +kernel)
theorem dX12_tonesOf_7 : decode cX12_tonesOf 7 = .ok (.iaload, 1) := dq0 kk_46 (by decide +kernel)
theorem dX12_tonesOf_8 : decode cX12_tonesOf 8 = .ok (.if_icmp .ge 28, 3) := dqT kk_162 (by decide +kernel)
theorem dX12_tonesOf_11 : decode cX12_tonesOf 11 = .ok (.aload_n 0, 1) := dq0 kk_42 (by decide +kernel)
theorem dX12_tonesOf_12 : decode cX12_tonesOf 12 = .ok (.bipush 13, 2) := dqS kk_16 (by decide +kernel)
theorem dX12_tonesOf_14 : decode cX12_tonesOf 14 = .ok (.iload_n 3, 1) := dq0 kk_29 (by decide +kernel)
theorem dX12_tonesOf_15 : decode cX12_tonesOf 15 = .ok (.iadd, 1) := dq0 kk_96 (by decide +kernel)
theorem dX12_tonesOf_16 : decode cX12_tonesOf 16 = .ok (.iaload, 1) := dq0 kk_46 (by decide +kernel)
theorem dX12_tonesOf_17 : decode cX12_tonesOf 17 = .ok (.iload_n 1, 1) := dq0 kk_27 (by decide +kernel)
theorem dX12_tonesOf_18 : decode cX12_tonesOf 18 = .ok (.invokestatic 51, 3) := dqV kk_184 (by decide +kernel)
theorem dX12_tonesOf_21 : decode cX12_tonesOf 21 = .ok (.ifCond .eq 9, 3) := dqT kk_153 (by decide +kernel)
theorem dX12_tonesOf_24 : decode cX12_tonesOf 24 = .ok (.iload_n 2, 1) := dq0 kk_28 (by decide +kernel)
theorem dX12_tonesOf_25 : decode cX12_tonesOf 25 = .ok (.iconst 1, 1) := dq0 kk_4 (by decide +kernel)
theorem dX12_tonesOf_26 : decode cX12_tonesOf 26 = .ok (.iload_n 3, 1) := dq0 kk_29 (by decide +kernel)
theorem dX12_tonesOf_27 : decode cX12_tonesOf 27 = .ok (.ishl, 1) := dq0 kk_120 (by decide +kernel)
theorem dX12_tonesOf_28 : decode cX12_tonesOf 28 = .ok (.ior, 1) := dq0 kk_128 (by decide +kernel)
theorem dX12_tonesOf_29 : decode cX12_tonesOf 29 = .ok (.istore_n 2, 1) := dq0 kk_61 (by decide +kernel)
theorem dX12_tonesOf_30 : decode cX12_tonesOf 30 = .ok (.iinc 3 1, 3) := dqI kk_132 (by decide +kernel)
theorem dX12_tonesOf_33 : decode cX12_tonesOf 33 = .ok (.goto (-29), 3) := dqT kk_167 (by decide +kernel)
set_option maxRecDepth 4000 in
theorem lp_X12_tonesOf {p : Program} {l : Launch} {e : Env} {s : State} {m : MethodId} {args : Array Value} {below : List Frame} {meth : Method} {c : Code} {D : va_G} {B : Nat} {cy : Nat → ClassId} {H0 : Heap} {Q : State → Prop} {M : Mem} {R : Room} {a n q hv ed : Nat} {K L : Nat → Nat}  {j : Nat} (F : CallFix p m c cX12_tonesOf 4 s args TB RX12) (hR1 : 1 ≤ R.frames) (hR2 : 21 ≤ R.locals) (hk : kd a = (22, 28, 0)) (hW : isR M a n q hv ed K L) (hwf : wf n q hv ed K L) (hj : j < 12) (kk : ∀ (t : Nat) (H : Heap) (locs : List Loc) (ls : Array Slot), (t = n) → Wd D B cy s H0 M H locs → lv_has ls 4 [(3, .int (zI (t : Int))), (2, .int (zI (((tmk L j t) : Nat) : Int))), (0, .ref (B + a)), (1, .int (zI (j : Int)))] → W p l e R s m args below meth c H locs 0 0 Q (F0 m 36 ls [])) : ∀ (f : Nat) (t : Nat), (t ≤ n) → (n ≤ t + f) → ∀ (H : Heap) (locs : List Loc) (ls : Array Slot), Wd D B cy s H0 M H locs → lv_has ls 4 [(3, .int (zI (t : Int))), (2, .int (zI (((tmk L j t) : Nat) : Int))), (0, .ref (B + a)), (1, .int (zI (j : Int)))] → W p l e R s m args below meth c H locs 0 0 Q (F0 m 4 ls []) := by
  have hx := F.1
  have hb := F.2.1
  have hwf0 := hwf
  obtain ⟨hn, hq, hhv, hed, hKL⟩ := hwf0
  intro f
  induction f with
  | zero =>
    intro t i0 hf H locs ls w hl
    have hm9 := tmk_lt (L := L) (j := j) (n := t) (by omega)
    refine lv_iload_n hx hb dX12_tonesOf_4 rfl (lv_at hl 0 rfl) ?_
    refine lv_aload_n hx hb dX12_tonesOf_5 rfl (lv_at hl 2 rfl) ?_
    refine lv_iconst (v := zI 0) hx hb dX12_tonesOf_6 rfl ?_
    refine g_iald F w (a := a) hk (j := 0) ⟨by decide, by decide⟩ (by omega) dX12_tonesOf_7 ?_
    refine r_val (v := (zI (n : Int))) (hW.1) ?_
    refine z_icmp_ge (tgt := 36) hx hb (by omega) (by omega) dX12_tonesOf_8 (by decide) (fun c1 => ?_) (fun c1 => False.elim (by omega))
    exact kk t _ _ ls (by omega) w (lv_sub hl [0, 1, 2, 3] rfl)
  | succ f ih =>
    intro t i0 hf H locs ls w hl
    have hm9 := tmk_lt (L := L) (j := j) (n := t) (by omega)
    refine lv_iload_n hx hb dX12_tonesOf_4 rfl (lv_at hl 0 rfl) ?_
    refine lv_aload_n hx hb dX12_tonesOf_5 rfl (lv_at hl 2 rfl) ?_
    refine lv_iconst (v := zI 0) hx hb dX12_tonesOf_6 rfl ?_
    refine g_iald F w (a := a) hk (j := 0) ⟨by decide, by decide⟩ (by omega) dX12_tonesOf_7 ?_
    refine r_val (v := (zI (n : Int))) (hW.1) ?_
    refine z_icmp_ge (tgt := 36) hx hb (by omega) (by omega) dX12_tonesOf_8 (by decide) (fun c1 => ?_) (fun c1 => ?_)
    · exact kk t _ _ ls (by omega) w (lv_sub hl [0, 1, 2, 3] rfl)
    · refine lv_aload_n hx hb dX12_tonesOf_11 rfl (lv_at hl 2 rfl) ?_
      refine lv_bipush (v := zI 13) hx hb dX12_tonesOf_12 (by decide) ?_
      refine lv_iload_n hx hb dX12_tonesOf_14 rfl (lv_at hl 0 rfl) ?_
      refine z_iadd (z := (((13 + t) : Nat) : Int)) hx hb dX12_tonesOf_15 (by omega) ?_
      refine g_iald F w (a := a) hk (j := (13 + t)) (ix_n (by omega)) (by omega) dX12_tonesOf_16 ?_
      have hL1 := (hKL t (by omega)).2
      refine r_val (v := (zI (((L t) : Nat) : Int))) (hW.2.2.2.2.2 t (by omega)) ?_
      refine lv_iload_n hx hb dX12_tonesOf_17 rfl (lv_at hl 3 rfl) ?_
      refine k_Si F w (As := [.int (zI (((L t) : Nat) : Int)), .int (zI (j : Int))]) (rest := []) (s_X12_isIn (m9 := (L t)) (k := j) (by omega) (by omega)) gs_X12_51 hs_X12_isIn ⟨(by omega), (by omega)⟩ hl.1 rfl (Nat.le_of_ble_eq_true rfl) ⟨Nat.zero_le _, Nat.zero_le _⟩ dX12_tonesOf_18 (fun r M1 H locs hp w => ?_)
      rcases hp with ⟨⟨hb2, rfl⟩ | ⟨hb2, rfl⟩, hMe⟩
      · rw [hMe] at w
        refine z_if_eq (tgt := 30) hx hb (by omega) dX12_tonesOf_21 (by decide) (fun c3 => False.elim (by omega)) (fun c3 => ?_)
        refine lv_iload_n hx hb dX12_tonesOf_24 rfl (lv_at hl 1 rfl) ?_
        refine lv_iconst (v := zI 1) hx hb dX12_tonesOf_25 rfl ?_
        refine lv_iload_n hx hb dX12_tonesOf_26 rfl (lv_at hl 0 rfl) ?_
        refine lv_ishl hx hb dX12_tonesOf_27 ?_
        refine r_val (v := (zI (((2 ^ t) : Nat) : Int))) (zb_shl (n := t) (by omega)) ?_
        have q4 := p2_b (n := t) (by omega)
        refine lv_ior hx hb dX12_tonesOf_28 ?_
        refine r_val (v := (zI ((((tmk L j t) ||| (2 ^ t)) : Nat) : Int))) (zb_or (tmk L j t) (2 ^ t)) ?_
        have q5 := or_lt12 (a := (tmk L j t)) (b := (2 ^ t)) (by omega) (by omega)
        refine lv_istore_n (lv' := [(2, .int (zI ((((tmk L j t) ||| (2 ^ t)) : Nat) : Int))), (3, .int (zI (t : Int))), (0, .ref (B + a)), (1, .int (zI (j : Int)))]) hx hb dX12_tonesOf_29 rfl hl (by decide) rfl (fun ls hl => ?_)
        refine z_iinc (v := (((t + 1) : Nat) : Int)) (lv' := [(3, .int (zI (((t + 1) : Nat) : Int))), (2, .int (zI ((((tmk L j t) ||| (2 ^ t)) : Nat) : Int))), (0, .ref (B + a)), (1, .int (zI (j : Int)))]) hx hb dX12_tonesOf_30 hl (k := 1) rfl (by omega) (by decide) rfl (fun ls hl => ?_)
        refine lv_goto (tgt := 4) hx hb dX12_tonesOf_33 (by decide) ?_
        rw [tmk_1 (by assumption)] at hl
        exact ih (t + 1) (by omega) (by omega) _ _ ls w (lv_sub hl [0, 1, 2, 3] rfl)
      · rw [hMe] at w
        refine z_if_eq (tgt := 30) hx hb (by omega) dX12_tonesOf_21 (by decide) (fun c6 => ?_) (fun c6 => False.elim (by omega))
        refine z_iinc (v := (((t + 1) : Nat) : Int)) (lv' := [(3, .int (zI (((t + 1) : Nat) : Int))), (2, .int (zI (((tmk L j t) : Nat) : Int))), (0, .ref (B + a)), (1, .int (zI (j : Int)))]) hx hb dX12_tonesOf_30 hl (k := 0) rfl (by omega) (by decide) rfl (fun ls hl => ?_)
        refine lv_goto (tgt := 4) hx hb dX12_tonesOf_33 (by decide) ?_
        rw [tmk_0 (by assumption)] at hl
        exact ih (t + 1) (by omega) (by omega) _ _ ls w (lv_sub hl [0, 1, 2, 3] rfl)
theorem dX12_tonesOf_0 : decode cX12_tonesOf 0 = .ok (.iconst 0, 1) := dq0 kk_3 (by decide +kernel)
theorem dX12_tonesOf_1 : decode cX12_tonesOf 1 = .ok (.istore_n 2, 1) := dq0 kk_61 (by decide +kernel)
theorem dX12_tonesOf_2 : decode cX12_tonesOf 2 = .ok (.iconst 0, 1) := dq0 kk_3 (by decide +kernel)
theorem dX12_tonesOf_3 : decode cX12_tonesOf 3 = .ok (.istore_n 3, 1) := dq0 kk_62 (by decide +kernel)
theorem dX12_tonesOf_36 : decode cX12_tonesOf 36 = .ok (.iload_n 2, 1) := dq0 kk_28 (by decide +kernel)
theorem dX12_tonesOf_37 : decode cX12_tonesOf 37 = .ok (.ireturn, 1) := dq0 kk_172 (by decide +kernel)
set_option maxRecDepth 4000 in
theorem s_X12_tonesOf {l : Launch} {D : va_G} {B : Nat} {cy : Nat → ClassId} {M : Mem} {a n q hv ed : Nat} {K L : Nat → Nat} (hk : kd a = (22, 28, 0)) (hW : isR M a n q hv ed K L) (hwf : wf n q hv ed K L) {j : Nat} (hj : j < 12) : Ci l D B cy yX12_tonesOf cX12_tonesOf 4 (some .int) 1 21 [.ref (B + a), .int (zI (j : Int))] M (fun r M1 => r = zI ((tmk L j n : Nat) : Int) ∧ M1 = M) := by
  refine s_any (by decide) (Nat.le_of_ble_eq_true rfl) ?_
  intro p e s m below meth c ls F hr hlocks w hl
  have F : CallFix p m c cX12_tonesOf 4 s _ TB RX12 := F
  have hx := F.1
  have hb := F.2.1
  have hl : lv_has ls 4 [(0, .ref (B + a)), (1, .int (zI (j : Int)))] := hl
  have hwf0 := hwf
  obtain ⟨hn, hq, hhv, hed, hKL⟩ := hwf0
  refine lv_iconst (v := zI 0) hx hb dX12_tonesOf_0 rfl ?_
  refine lv_istore_n (lv' := [(2, .int (zI 0)), (0, .ref (B + a)), (1, .int (zI (j : Int)))]) hx hb dX12_tonesOf_1 rfl hl (by decide) rfl (fun ls hl => ?_)
  refine lv_iconst (v := zI 0) hx hb dX12_tonesOf_2 rfl ?_
  refine lv_istore_n (lv' := [(3, .int (zI 0)), (2, .int (zI 0)), (0, .ref (B + a)), (1, .int (zI (j : Int)))]) hx hb dX12_tonesOf_3 rfl hl (by decide) rfl (fun ls hl => ?_)
  refine lp_X12_tonesOf  F (Nat.le_of_ble_eq_true rfl) (Nat.le_of_ble_eq_true rfl) hk hW hwf hj (fun t H locs ls x0 w hl => ?_) n 0 (by omega) (by omega) _ _ ls w (lv_sub hl [0, 1, 2, 3] rfl)
  subst x0
  refine lv_iload_n hx hb dX12_tonesOf_36 rfl (lv_at hl 1 rfl) ?_
  exact e_i F w hr hlocks ⟨rfl, rfl⟩ dX12_tonesOf_37
theorem open_bit {n : Nat} {L : Nat → Nat} {t j : Nat} (h : (L t).testBit j = true) : ¬ openP n L t j := fun h9 => by
  rw [h9.1] at h
  cases h
theorem dX12_isOpen_17 : decode cX12_isOpen 17 = .ok (.iload_n 3, 1) := dq0 kk_29 (by decide +kernel)
theorem dX12_isOpen_18 : decode cX12_isOpen 18 = .ok (.aload_n 0, 1) := dq0 kk_42 (by decide +kernel)
theorem dX12_isOpen_19 : decode cX12_isOpen 19 = .ok (.iconst 0, 1) := dq0 kk_3 (by decide +kernel)
theorem dX12_isOpen_20 : decode cX12_isOpen 20 = .ok (.iaload, 1) := dq0 kk_46 (by decide +kernel)
theorem dX12_isOpen_21 : decode cX12_isOpen 21 = .ok (.if_icmp .ge 55, 3) := dqT kk_162 (by decide +kernel)
theorem dX12_isOpen_24 : decode cX12_isOpen 24 = .ok (.aload_n 0, 1) := dq0 kk_42 (by decide +kernel)
theorem dX12_isOpen_25 : decode cX12_isOpen 25 = .ok (.bipush 13, 2) := dqS kk_16 (by decide +kernel)
theorem dX12_isOpen_27 : decode cX12_isOpen 27 = .ok (.iload_n 3, 1) := dq0 kk_29 (by decide +kernel)
theorem dX12_isOpen_28 : decode cX12_isOpen 28 = .ok (.iadd, 1) := dq0 kk_96 (by decide +kernel)
theorem dX12_isOpen_29 : decode cX12_isOpen 29 = .ok (.iaload, 1) := dq0 kk_46 (by decide +kernel)
theorem dX12_isOpen_30 : decode cX12_isOpen 30 = .ok (.istore 4, 2) := dqU kk_54 (by decide +kernel)
theorem dX12_isOpen_32 : decode cX12_isOpen 32 = .ok (.iload 4, 2) := dqU kk_21 (by decide +kernel)
theorem dX12_isOpen_34 : decode cX12_isOpen 34 = .ok (.ifCond .ne 6, 3) := dqT kk_154 (by decide +kernel)
theorem dX12_isOpen_40 : decode cX12_isOpen 40 = .ok (.iload_n 3, 1) := dq0 kk_29 (by decide +kernel)
theorem dX12_isOpen_41 : decode cX12_isOpen 41 = .ok (.iload_n 1, 1) := dq0 kk_27 (by decide +kernel)
theorem dX12_isOpen_42 : decode cX12_isOpen 42 = .ok (.if_icmp .ge 12, 3) := dqT kk_162 (by decide +kernel)
theorem dX12_isOpen_54 : decode cX12_isOpen 54 = .ok (.iload_n 3, 1) := dq0 kk_29 (by decide +kernel)
theorem dX12_isOpen_55 : decode cX12_isOpen 55 = .ok (.iload_n 1, 1) := dq0 kk_27 (by decide +kernel)
theorem dX12_isOpen_56 : decode cX12_isOpen 56 = .ok (.if_icmp .le 14, 3) := dqT kk_164 (by decide +kernel)
theorem dX12_isOpen_70 : decode cX12_isOpen 70 = .ok (.iinc 3 1, 3) := dqI kk_132 (by decide +kernel)
theorem dX12_isOpen_73 : decode cX12_isOpen 73 = .ok (.goto (-56), 3) := dqT kk_167 (by decide +kernel)
theorem dX12_isOpen_59 : decode cX12_isOpen 59 = .ok (.iload 4, 2) := dqU kk_21 (by decide +kernel)
theorem dX12_isOpen_61 : decode cX12_isOpen 61 = .ok (.invokestatic 63, 3) := dqV kk_184 (by decide +kernel)
theorem tk_X12_firstOf : Cond.code yX12_firstOf cX12_firstOf 2 (some .int) ∈ TB := tbm (tc5 (List.mem_of_getElem? (i := 194) rfl)) rfl
theorem gc_X12_firstOf : GoodIn TB (cw yX12_firstOf cX12_firstOf 2 (some .int)) := goodIn_c2 tk_X12_firstOf
theorem tb_41 : Cond.methodLink "ToneLinesModel" 63 yX12_firstOf ∈ TB := tbm (tc5 (List.mem_of_getElem? (i := 192) rfl)) rfl
theorem tb_42 : Cond.static yX12_firstOf ∈ TB := tbm (tc5 (List.mem_of_getElem? (i := 193) rfl)) rfl
theorem gs_X12_63 : GoodIn TB (va_wsS RX12 63 yX12_firstOf (cw yX12_firstOf cX12_firstOf 2 (some .int))) := goodIn_3 tb_41 tb_42 tb_38 gc_X12_firstOf
theorem hs_X12_firstOf : yX12_firstOf.cls ≠ "java/lang/invoke/MethodHandle" ∧ yX12_firstOf.cls ≠ "java/lang/invoke/VarHandle" ∧ (parseMethodDescriptor yX12_firstOf.desc).map (fun d => d.parameters.length) = some 1 := by decide +kernel
theorem dX12_isOpen_64 : decode cX12_isOpen 64 = .ok (.iload_n 2, 1) := dq0 kk_28 (by decide +kernel)
theorem dX12_isOpen_65 : decode cX12_isOpen 65 = .ok (.if_icmp .ge 5, 3) := dqT kk_162 (by decide +kernel)
theorem dX12_isOpen_68 : decode cX12_isOpen 68 = .ok (.iconst 0, 1) := dq0 kk_3 (by decide +kernel)
theorem dX12_isOpen_69 : decode cX12_isOpen 69 = .ok (.ireturn, 1) := dq0 kk_172 (by decide +kernel)
theorem dX12_isOpen_45 : decode cX12_isOpen 45 = .ok (.iload 4, 2) := dqU kk_21 (by decide +kernel)
theorem dX12_isOpen_47 : decode cX12_isOpen 47 = .ok (.invokestatic 59, 3) := dqV kk_184 (by decide +kernel)
theorem tk_X12_lastOf : Cond.code yX12_lastOf cX12_lastOf 2 (some .int) ∈ TB := tbm (tc5 (List.mem_of_getElem? (i := 191) rfl)) rfl
theorem gc_X12_lastOf : GoodIn TB (cw yX12_lastOf cX12_lastOf 2 (some .int)) := goodIn_c2 tk_X12_lastOf
theorem tb_43 : Cond.methodLink "ToneLinesModel" 59 yX12_lastOf ∈ TB := tbm (tc5 (List.mem_of_getElem? (i := 189) rfl)) rfl
theorem tb_44 : Cond.static yX12_lastOf ∈ TB := tbm (tc5 (List.mem_of_getElem? (i := 190) rfl)) rfl
theorem gs_X12_59 : GoodIn TB (va_wsS RX12 59 yX12_lastOf (cw yX12_lastOf cX12_lastOf 2 (some .int))) := goodIn_3 tb_43 tb_44 tb_38 gc_X12_lastOf
theorem hs_X12_lastOf : yX12_lastOf.cls ≠ "java/lang/invoke/MethodHandle" ∧ yX12_lastOf.cls ≠ "java/lang/invoke/VarHandle" ∧ (parseMethodDescriptor yX12_lastOf.desc).map (fun d => d.parameters.length) = some 1 := by decide +kernel
theorem dX12_isOpen_50 : decode cX12_isOpen 50 = .ok (.iload_n 2, 1) := dq0 kk_28 (by decide +kernel)
theorem dX12_isOpen_51 : decode cX12_isOpen 51 = .ok (.if_icmp .gt 17, 3) := dqT kk_163 (by decide +kernel)
theorem dX12_isOpen_37 : decode cX12_isOpen 37 = .ok (.goto 33, 3) := dqT kk_167 (by decide +kernel)
set_option maxRecDepth 4000 in
theorem lp_X12_isOpen {p : Program} {l : Launch} {e : Env} {s : State} {m : MethodId} {args : Array Value} {below : List Frame} {meth : Method} {c : Code} {D : va_G} {B : Nat} {cy : Nat → ClassId}  {M : Mem} {R : Room} {a n q hv ed : Nat} {K L : Nat → Nat}  {t j : Nat} (F : CallFix p m c cX12_isOpen 5 s args TB RX12) (hr : meth.sig.returnType = (some .boolean)) (hlocks : meth.locks = false) (hR1 : 2 ≤ R.frames) (hR2 : 42 ≤ R.locals) (hk : kd a = (22, 28, 0)) (hW : isR M a n q hv ed K L) (hwf : wf n q hv ed K L) (ht : t < n) (hj : j < 12) (kk : ∀ (k : Nat) (H : Heap) (locs : List Loc) (ls : Array Slot), (k = n) → (∀ u, u < n → okU L t j u) → Wd D B cy s s.heap M H locs → lv_has ls 5 [(3, .int (zI (k : Int))), (0, .ref (B + a)), (1, .int (zI (t : Int))), (2, .int (zI (j : Int)))] → W p l e R s m args below meth c H locs 0 0 (MQ below (va_Qi (fun r M1 => ((openP n L t j) ∧ r = zI 1 ∨ ¬ (openP n L t j) ∧ r = zI 0) ∧ M1 = M) (fun M2 t2 => Wp D B cy M2 t2) (fun q2 => B ≤ q2)) args s 0 0 (fun q2 => B ≤ q2)) (F0 m 76 ls [])) : ∀ (f : Nat) (k : Nat), (k ≤ n) → (∀ u, u < k → okU L t j u) → (n ≤ k + f) → ∀ (H : Heap) (locs : List Loc) (ls : Array Slot), Wd D B cy s s.heap M H locs → lv_has ls 5 [(3, .int (zI (k : Int))), (0, .ref (B + a)), (1, .int (zI (t : Int))), (2, .int (zI (j : Int)))] → W p l e R s m args below meth c H locs 0 0 (MQ below (va_Qi (fun r M1 => ((openP n L t j) ∧ r = zI 1 ∨ ¬ (openP n L t j) ∧ r = zI 0) ∧ M1 = M) (fun M2 t2 => Wp D B cy M2 t2) (fun q2 => B ≤ q2)) args s 0 0 (fun q2 => B ≤ q2)) (F0 m 17 ls []) := by
  have hx := F.1
  have hb := F.2.1
  have hwf0 := hwf
  obtain ⟨hn, hq, hhv, hed, hKL⟩ := hwf0
  intro f
  induction f with
  | zero =>
    intro k i0 i1 hf H locs ls w hl
    refine lv_iload_n hx hb dX12_isOpen_17 rfl (lv_at hl 0 rfl) ?_
    refine lv_aload_n hx hb dX12_isOpen_18 rfl (lv_at hl 1 rfl) ?_
    refine lv_iconst (v := zI 0) hx hb dX12_isOpen_19 rfl ?_
    refine g_iald F w (a := a) hk (j := 0) ⟨by decide, by decide⟩ (by omega) dX12_isOpen_20 ?_
    refine r_val (v := (zI (n : Int))) (hW.1) ?_
    refine z_icmp_ge (tgt := 76) hx hb (by omega) (by omega) dX12_isOpen_21 (by decide) (fun c1 => ?_) (fun c1 => False.elim (by omega))
    exact kk k _ _ ls (by omega) (fun u hu => i1 u (by omega)) w (lv_sub hl [0, 1, 2, 3] rfl)
  | succ f ih =>
    intro k i0 i1 hf H locs ls w hl
    refine lv_iload_n hx hb dX12_isOpen_17 rfl (lv_at hl 0 rfl) ?_
    refine lv_aload_n hx hb dX12_isOpen_18 rfl (lv_at hl 1 rfl) ?_
    refine lv_iconst (v := zI 0) hx hb dX12_isOpen_19 rfl ?_
    refine g_iald F w (a := a) hk (j := 0) ⟨by decide, by decide⟩ (by omega) dX12_isOpen_20 ?_
    refine r_val (v := (zI (n : Int))) (hW.1) ?_
    refine z_icmp_ge (tgt := 76) hx hb (by omega) (by omega) dX12_isOpen_21 (by decide) (fun c1 => ?_) (fun c1 => ?_)
    · exact kk k _ _ ls (by omega) (fun u hu => i1 u (by omega)) w (lv_sub hl [0, 1, 2, 3] rfl)
    · refine lv_aload_n hx hb dX12_isOpen_24 rfl (lv_at hl 1 rfl) ?_
      refine lv_bipush (v := zI 13) hx hb dX12_isOpen_25 (by decide) ?_
      refine lv_iload_n hx hb dX12_isOpen_27 rfl (lv_at hl 0 rfl) ?_
      refine z_iadd (z := (((13 + k) : Nat) : Int)) hx hb dX12_isOpen_28 (by omega) ?_
      refine g_iald F w (a := a) hk (j := (13 + k)) (ix_n (by omega)) (by omega) dX12_isOpen_29 ?_
      have hL1 := (hKL k (by omega)).2
      refine r_val (v := (zI (((L k) : Nat) : Int))) (hW.2.2.2.2.2 k (by omega)) ?_
      refine lv_istore (lv' := [(4, .int (zI (((L k) : Nat) : Int))), (3, .int (zI (k : Int))), (0, .ref (B + a)), (1, .int (zI (t : Int))), (2, .int (zI (j : Int)))]) hx hb dX12_isOpen_30 hl (by decide) rfl (fun ls hl => ?_)
      refine lv_iload hx hb dX12_isOpen_32 (lv_at hl 0 rfl) ?_
      refine z_if_ne (tgt := 40) hx hb (by omega) dX12_isOpen_34 (by decide) (fun c2 => ?_) (fun c2 => ?_)
      · refine lv_iload_n hx hb dX12_isOpen_40 rfl (lv_at hl 1 rfl) ?_
        refine lv_iload_n hx hb dX12_isOpen_41 rfl (lv_at hl 3 rfl) ?_
        refine z_icmp_ge (tgt := 54) hx hb (by omega) (by omega) dX12_isOpen_42 (by decide) (fun c3 => ?_) (fun c3 => ?_)
        · refine lv_iload_n hx hb dX12_isOpen_54 rfl (lv_at hl 1 rfl) ?_
          refine lv_iload_n hx hb dX12_isOpen_55 rfl (lv_at hl 3 rfl) ?_
          refine z_icmp_le (tgt := 70) hx hb (by omega) (by omega) dX12_isOpen_56 (by decide) (fun c4 => ?_) (fun c4 => ?_)
          · refine z_iinc (v := (((k + 1) : Nat) : Int)) (lv' := [(3, .int (zI (((k + 1) : Nat) : Int))), (4, .int (zI (((L k) : Nat) : Int))), (0, .ref (B + a)), (1, .int (zI (t : Int))), (2, .int (zI (j : Int)))]) hx hb dX12_isOpen_70 hl (k := 1) rfl (by omega) (by decide) rfl (fun ls hl => ?_)
            refine lv_goto (tgt := 17) hx hb dX12_isOpen_73 (by decide) ?_
            exact ih (k + 1) (by omega) (fun u hu => by by_cases h9 : u = k; (subst h9; exact ok_step (by omega) (by omega)); exact i1 u (by omega)) (by omega) _ _ ls w (lv_sub hl [0, 2, 3, 4] rfl)
          · refine lv_iload hx hb dX12_isOpen_59 (lv_at hl 0 rfl) ?_
            refine x_Si F w (As := [.int (zI (((L k) : Nat) : Int))]) (rest := []) (s_X12_firstOf (m9 := (L k)) (by omega)) gs_X12_63 hs_X12_firstOf ⟨(by omega), (by omega)⟩ hl.1 rfl (Nat.le_of_ble_eq_true rfl) ⟨Nat.zero_le _, Nat.zero_le _⟩ dX12_isOpen_61 (fun H locs w => ?_)
            have hw4 := lowI_rg (L k) (by omega)
            refine lv_iload_n hx hb dX12_isOpen_64 rfl (lv_at hl 4 rfl) ?_
            refine z_icmp_ge (tgt := 70) hx hb (by omega) (by omega) dX12_isOpen_65 (by decide) (fun c5 => ?_) (fun c5 => ?_)
            · refine z_iinc (v := (((k + 1) : Nat) : Int)) (lv' := [(3, .int (zI (((k + 1) : Nat) : Int))), (4, .int (zI (((L k) : Nat) : Int))), (0, .ref (B + a)), (1, .int (zI (t : Int))), (2, .int (zI (j : Int)))]) hx hb dX12_isOpen_70 hl (k := 1) rfl (by omega) (by decide) rfl (fun ls hl => ?_)
              refine lv_goto (tgt := 17) hx hb dX12_isOpen_73 (by decide) ?_
              exact ih (k + 1) (by omega) (fun u hu => by by_cases h9 : u = k; (subst h9; exact ok_step (by omega) (by omega)); exact i1 u (by omega)) (by omega) _ _ ls w (lv_sub hl [0, 2, 3, 4] rfl)
            · refine lv_iconst (v := zI 0) hx hb dX12_isOpen_68 rfl ?_
              exact e_z F w hr hlocks (by decide) ⟨Or.inr ⟨open_no (k := k) (by omega) (by omega) (by omega) (by omega), rfl⟩, rfl⟩ dX12_isOpen_69
        · refine lv_iload hx hb dX12_isOpen_45 (lv_at hl 0 rfl) ?_
          refine x_Si F w (As := [.int (zI (((L k) : Nat) : Int))]) (rest := []) (s_X12_lastOf (m9 := (L k)) (by omega)) gs_X12_59 hs_X12_lastOf ⟨(by omega), (by omega)⟩ hl.1 rfl (Nat.le_of_ble_eq_true rfl) ⟨Nat.zero_le _, Nat.zero_le _⟩ dX12_isOpen_47 (fun H locs w => ?_)
          have hw5 := higI_rg (L k) (by omega)
          refine lv_iload_n hx hb dX12_isOpen_50 rfl (lv_at hl 4 rfl) ?_
          refine z_icmp_gt (tgt := 68) hx hb (by omega) (by omega) dX12_isOpen_51 (by decide) (fun c6 => ?_) (fun c6 => ?_)
          · refine lv_iconst (v := zI 0) hx hb dX12_isOpen_68 rfl ?_
            exact e_z F w hr hlocks (by decide) ⟨Or.inr ⟨open_no (k := k) (by omega) (by omega) (by omega) (by omega), rfl⟩, rfl⟩ dX12_isOpen_69
          · refine lv_iload_n hx hb dX12_isOpen_54 rfl (lv_at hl 1 rfl) ?_
            refine lv_iload_n hx hb dX12_isOpen_55 rfl (lv_at hl 3 rfl) ?_
            refine z_icmp_le (tgt := 70) hx hb (by omega) (by omega) dX12_isOpen_56 (by decide) (fun c7 => ?_) (fun c7 => ?_)
            · refine z_iinc (v := (((k + 1) : Nat) : Int)) (lv' := [(3, .int (zI (((k + 1) : Nat) : Int))), (4, .int (zI (((L k) : Nat) : Int))), (0, .ref (B + a)), (1, .int (zI (t : Int))), (2, .int (zI (j : Int)))]) hx hb dX12_isOpen_70 hl (k := 1) rfl (by omega) (by decide) rfl (fun ls hl => ?_)
              refine lv_goto (tgt := 17) hx hb dX12_isOpen_73 (by decide) ?_
              exact ih (k + 1) (by omega) (fun u hu => by by_cases h9 : u = k; (subst h9; exact ok_step (by omega) (by omega)); exact i1 u (by omega)) (by omega) _ _ ls w (lv_sub hl [0, 2, 3, 4] rfl)
            · refine lv_iload hx hb dX12_isOpen_59 (lv_at hl 0 rfl) ?_
              refine x_Si F w (As := [.int (zI (((L k) : Nat) : Int))]) (rest := []) (s_X12_firstOf (m9 := (L k)) (by omega)) gs_X12_63 hs_X12_firstOf ⟨(by omega), (by omega)⟩ hl.1 rfl (Nat.le_of_ble_eq_true rfl) ⟨Nat.zero_le _, Nat.zero_le _⟩ dX12_isOpen_61 (fun H locs w => ?_)
              have hw7 := lowI_rg (L k) (by omega)
              refine lv_iload_n hx hb dX12_isOpen_64 rfl (lv_at hl 4 rfl) ?_
              refine z_icmp_ge (tgt := 70) hx hb (by omega) (by omega) dX12_isOpen_65 (by decide) (fun c8 => ?_) (fun c8 => ?_)
              · refine z_iinc (v := (((k + 1) : Nat) : Int)) (lv' := [(3, .int (zI (((k + 1) : Nat) : Int))), (4, .int (zI (((L k) : Nat) : Int))), (0, .ref (B + a)), (1, .int (zI (t : Int))), (2, .int (zI (j : Int)))]) hx hb dX12_isOpen_70 hl (k := 1) rfl (by omega) (by decide) rfl (fun ls hl => ?_)
                refine lv_goto (tgt := 17) hx hb dX12_isOpen_73 (by decide) ?_
                exact ih (k + 1) (by omega) (fun u hu => by by_cases h9 : u = k; (subst h9; exact ok_step (by omega) (by omega)); exact i1 u (by omega)) (by omega) _ _ ls w (lv_sub hl [0, 2, 3, 4] rfl)
              · refine lv_iconst (v := zI 0) hx hb dX12_isOpen_68 rfl ?_
                exact e_z F w hr hlocks (by decide) ⟨Or.inr ⟨open_no (k := k) (by omega) (by omega) (by omega) (by omega), rfl⟩, rfl⟩ dX12_isOpen_69
      · refine lv_goto (tgt := 70) hx hb dX12_isOpen_37 (by decide) ?_
        refine z_iinc (v := (((k + 1) : Nat) : Int)) (lv' := [(3, .int (zI (((k + 1) : Nat) : Int))), (4, .int (zI (((L k) : Nat) : Int))), (0, .ref (B + a)), (1, .int (zI (t : Int))), (2, .int (zI (j : Int)))]) hx hb dX12_isOpen_70 hl (k := 1) rfl (by omega) (by decide) rfl (fun ls hl => ?_)
        refine lv_goto (tgt := 17) hx hb dX12_isOpen_73 (by decide) ?_
        exact ih (k + 1) (by omega) (fun u hu => by by_cases h9 : u = k; (subst h9; exact ok_step (by omega) (by omega)); exact i1 u (by omega)) (by omega) _ _ ls w (lv_sub hl [0, 2, 3, 4] rfl)
theorem dX12_isOpen_0 : decode cX12_isOpen 0 = .ok (.aload_n 0, 1) := dq0 kk_42 (by decide +kernel)
theorem dX12_isOpen_1 : decode cX12_isOpen 1 = .ok (.bipush 13, 2) := dqS kk_16 (by decide +kernel)
theorem dX12_isOpen_3 : decode cX12_isOpen 3 = .ok (.iload_n 1, 1) := dq0 kk_27 (by decide +kernel)
theorem dX12_isOpen_4 : decode cX12_isOpen 4 = .ok (.iadd, 1) := dq0 kk_96 (by decide +kernel)
theorem dX12_isOpen_5 : decode cX12_isOpen 5 = .ok (.iaload, 1) := dq0 kk_46 (by decide +kernel)
theorem dX12_isOpen_6 : decode cX12_isOpen 6 = .ok (.iload_n 2, 1) := dq0 kk_28 (by decide +kernel)
theorem dX12_isOpen_7 : decode cX12_isOpen 7 = .ok (.invokestatic 51, 3) := dqV kk_184 (by decide +kernel)
theorem dX12_isOpen_10 : decode cX12_isOpen 10 = .ok (.ifCond .eq 5, 3) := dqT kk_153 (by decide +kernel)
theorem dX12_isOpen_13 : decode cX12_isOpen 13 = .ok (.iconst 0, 1) := dq0 kk_3 (by decide +kernel)
theorem dX12_isOpen_14 : decode cX12_isOpen 14 = .ok (.ireturn, 1) := dq0 kk_172 (by decide +kernel)
theorem dX12_isOpen_15 : decode cX12_isOpen 15 = .ok (.iconst 0, 1) := dq0 kk_3 (by decide +kernel)
theorem dX12_isOpen_16 : decode cX12_isOpen 16 = .ok (.istore_n 3, 1) := dq0 kk_62 (by decide +kernel)
theorem dX12_isOpen_76 : decode cX12_isOpen 76 = .ok (.iconst 1, 1) := dq0 kk_4 (by decide +kernel)
theorem dX12_isOpen_77 : decode cX12_isOpen 77 = .ok (.ireturn, 1) := dq0 kk_172 (by decide +kernel)
set_option maxRecDepth 4000 in
theorem s_X12_isOpen {l : Launch} {D : va_G} {B : Nat} {cy : Nat → ClassId} {M : Mem} {a n q hv ed : Nat} {K L : Nat → Nat} (hk : kd a = (22, 28, 0)) (hW : isR M a n q hv ed K L) (hwf : wf n q hv ed K L) {t j : Nat} (ht : t < n) (hj : j < 12) : Ci l D B cy yX12_isOpen cX12_isOpen 5 (some .boolean) 2 42 [.ref (B + a), .int (zI (t : Int)), .int (zI (j : Int))] M (fun r M1 => ((openP n L t j) ∧ r = zI 1 ∨ ¬ (openP n L t j) ∧ r = zI 0) ∧ M1 = M) := by
  refine s_any (by decide) (Nat.le_of_ble_eq_true rfl) ?_
  intro p e s m below meth c ls F hr hlocks w hl
  have F : CallFix p m c cX12_isOpen 5 s _ TB RX12 := F
  have hx := F.1
  have hb := F.2.1
  have hl : lv_has ls 5 [(0, .ref (B + a)), (1, .int (zI (t : Int))), (2, .int (zI (j : Int)))] := hl
  have hwf0 := hwf
  obtain ⟨hn, hq, hhv, hed, hKL⟩ := hwf0
  refine lv_aload_n hx hb dX12_isOpen_0 rfl (lv_at hl 0 rfl) ?_
  refine lv_bipush (v := zI 13) hx hb dX12_isOpen_1 (by decide) ?_
  refine lv_iload_n hx hb dX12_isOpen_3 rfl (lv_at hl 1 rfl) ?_
  refine z_iadd (z := (((13 + t) : Nat) : Int)) hx hb dX12_isOpen_4 (by omega) ?_
  refine g_iald F w (a := a) hk (j := (13 + t)) (ix_n (by omega)) (by omega) dX12_isOpen_5 ?_
  have hL0 := (hKL t (by omega)).2
  refine r_val (v := (zI (((L t) : Nat) : Int))) (hW.2.2.2.2.2 t (by omega)) ?_
  refine lv_iload_n hx hb dX12_isOpen_6 rfl (lv_at hl 2 rfl) ?_
  refine k_Si F w (As := [.int (zI (((L t) : Nat) : Int)), .int (zI (j : Int))]) (rest := []) (s_X12_isIn (m9 := (L t)) (k := j) (by omega) (by omega)) gs_X12_51 hs_X12_isIn ⟨(Nat.le_of_ble_eq_true rfl), (Nat.le_of_ble_eq_true rfl)⟩ hl.1 rfl (Nat.le_of_ble_eq_true rfl) ⟨Nat.zero_le _, Nat.zero_le _⟩ dX12_isOpen_7 (fun r M1 H locs hp w => ?_)
  rcases hp with ⟨⟨hb1, rfl⟩ | ⟨hb1, rfl⟩, hMe⟩
  · rw [hMe] at w
    refine z_if_eq (tgt := 15) hx hb (by omega) dX12_isOpen_10 (by decide) (fun c2 => False.elim (by omega)) (fun c2 => ?_)
    refine lv_iconst (v := zI 0) hx hb dX12_isOpen_13 rfl ?_
    exact e_z F w hr hlocks (by decide) ⟨Or.inr ⟨open_bit (by assumption), rfl⟩, rfl⟩ dX12_isOpen_14
  · rw [hMe] at w
    refine z_if_eq (tgt := 15) hx hb (by omega) dX12_isOpen_10 (by decide) (fun c3 => ?_) (fun c3 => False.elim (by omega))
    refine lv_iconst (v := zI 0) hx hb dX12_isOpen_15 rfl ?_
    refine lv_istore_n (lv' := [(3, .int (zI 0)), (0, .ref (B + a)), (1, .int (zI (t : Int))), (2, .int (zI (j : Int)))]) hx hb dX12_isOpen_16 rfl hl (by decide) rfl (fun ls hl => ?_)
    refine lp_X12_isOpen  F hr hlocks (Nat.le_of_ble_eq_true rfl) (Nat.le_of_ble_eq_true rfl) hk hW hwf ht hj (fun k H locs ls x0 x1 w hl => ?_) n 0 (by omega) (fun u hu => absurd hu (Nat.not_lt_zero u)) (by omega) _ _ ls w (lv_sub hl [0, 1, 2, 3] rfl)
    refine lv_iconst (v := zI 1) hx hb dX12_isOpen_76 rfl ?_
    exact e_z F w hr hlocks (by decide) ⟨Or.inl ⟨open_yes (nb (by assumption)) x1, rfl⟩, rfl⟩ dX12_isOpen_77
