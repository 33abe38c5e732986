theorem dX12_in_0 : decode cX12_in 0 = .ok (.iload_n 0, 1) := by decide +kernel
theorem dX12_in_1 : decode cX12_in 1 = .ok (.iload_n 1, 1) := by decide +kernel
theorem dX12_in_2 : decode cX12_in 2 = .ok (.if_icmp .lt 12, 3) := by decide +kernel
theorem dX12_in_14 : decode cX12_in 14 = .ok (.iconst 0, 1) := by decide +kernel
theorem dX12_in_15 : decode cX12_in 15 = .ok (.ireturn, 1) := by decide +kernel
theorem dX12_in_5 : decode cX12_in 5 = .ok (.iload_n 0, 1) := by decide +kernel
theorem dX12_in_6 : decode cX12_in 6 = .ok (.iload_n 2, 1) := by decide +kernel
theorem dX12_in_7 : decode cX12_in 7 = .ok (.if_icmp .gt 7, 3) := by decide +kernel
theorem dX12_in_10 : decode cX12_in 10 = .ok (.iconst 1, 1) := by decide +kernel
theorem dX12_in_11 : decode cX12_in 11 = .ok (.goto 4, 3) := by decide +kernel
set_option maxRecDepth 4000 in
theorem s_X12_in {l : Launch} {D : va_G} {B : Nat} {cy : Nat → ClassId} {M : Mem} {v a b : Int} (hv : rg v) (ha : rg a) (hb1 : rg b) : Ci l D B cy yX12_in cX12_in 3 (some .boolean) 0 0 [.int (zI v), .int (zI a), .int (zI b)] M (fun r M1 => ((a ≤ v ∧ v ≤ b) ∧ r = zI 1 ∨ ¬ (a ≤ v ∧ v ≤ b) ∧ r = zI 0) ∧ M1 = M) := by
  refine s_any (by decide) (Nat.le_of_ble_eq_true rfl) ?_
  intro p e s m below meth c ls F hr hlocks w hl
  have F : CallFix p m c cX12_in 3 s _ TB RX12 := F
  have hx := F.1
  have hb := F.2.1
  have hl : lv_has ls 3 [(0, .int (zI v)), (1, .int (zI a)), (2, .int (zI b))] := hl
  refine lv_iload_n hx hb dX12_in_0 rfl (lv_at hl 0 rfl) ?_
  refine lv_iload_n hx hb dX12_in_1 rfl (lv_at hl 1 rfl) ?_
  refine z_icmp_lt (tgt := 14) hx hb (by omega) (by omega) dX12_in_2 (by decide) (fun c1 => ?_) (fun c1 => ?_)
  · refine lv_iconst (v := zI 0) hx hb dX12_in_14 rfl ?_
    exact e_z F w hr hlocks (by decide) ⟨Or.inr ⟨by omega, rfl⟩, rfl⟩ dX12_in_15
  · refine lv_iload_n hx hb dX12_in_5 rfl (lv_at hl 0 rfl) ?_
    refine lv_iload_n hx hb dX12_in_6 rfl (lv_at hl 2 rfl) ?_
    refine z_icmp_gt (tgt := 14) hx hb (by omega) (by omega) dX12_in_7 (by decide) (fun c2 => ?_) (fun c2 => ?_)
    · refine lv_iconst (v := zI 0) hx hb dX12_in_14 rfl ?_
      exact e_z F w hr hlocks (by decide) ⟨Or.inr ⟨by omega, rfl⟩, rfl⟩ dX12_in_15
    · refine lv_iconst (v := zI 1) hx hb dX12_in_10 rfl ?_
      refine lv_goto (tgt := 15) hx hb dX12_in_11 (by decide) ?_
      exact e_z F w hr hlocks (by decide) ⟨Or.inl ⟨by omega, rfl⟩, rfl⟩ dX12_in_15
theorem dX12_isIn_0 : decode cX12_isIn 0 = .ok (.iload_n 0, 1) := by decide +kernel
theorem dX12_isIn_1 : decode cX12_isIn 1 = .ok (.iload_n 1, 1) := by decide +kernel
theorem dX12_isIn_2 : decode cX12_isIn 2 = .ok (.ishr, 1) := by decide +kernel
theorem dX12_isIn_3 : decode cX12_isIn 3 = .ok (.iconst 1, 1) := by decide +kernel
theorem dX12_isIn_4 : decode cX12_isIn 4 = .ok (.iand, 1) := by decide +kernel
theorem dX12_isIn_5 : decode cX12_isIn 5 = .ok (.iconst 1, 1) := by decide +kernel
theorem dX12_isIn_6 : decode cX12_isIn 6 = .ok (.if_icmp .ne 7, 3) := by decide +kernel
theorem dX12_isIn_13 : decode cX12_isIn 13 = .ok (.iconst 0, 1) := by decide +kernel
theorem dX12_isIn_14 : decode cX12_isIn 14 = .ok (.ireturn, 1) := by decide +kernel
theorem dX12_isIn_9 : decode cX12_isIn 9 = .ok (.iconst 1, 1) := by decide +kernel
theorem dX12_isIn_10 : decode cX12_isIn 10 = .ok (.goto 4, 3) := by decide +kernel
set_option maxRecDepth 4000 in
theorem s_X12_isIn {l : Launch} {D : va_G} {B : Nat} {cy : Nat → ClassId} {M : Mem} {m9 k : Nat} (hm : m9 < 4096) (hk : k < 32) : Ci l D B cy yX12_isIn cX12_isIn 2 (some .boolean) 0 0 [.int (zI (m9 : Int)), .int (zI (k : Int))] M (fun r M1 => ((m9.testBit k = true) ∧ r = zI 1 ∨ ¬ (m9.testBit k = true) ∧ r = zI 0) ∧ M1 = M) := by
  refine s_any (by decide) (Nat.le_of_ble_eq_true rfl) ?_
  intro p e s m below meth c ls F hr hlocks w hl
  have F : CallFix p m c cX12_isIn 2 s _ TB RX12 := F
  have hx := F.1
  have hb := F.2.1
  have hl : lv_has ls 2 [(0, .int (zI (m9 : Int))), (1, .int (zI (k : Int)))] := hl
  refine lv_iload_n hx hb dX12_isIn_0 rfl (lv_at hl 0 rfl) ?_
  refine lv_iload_n hx hb dX12_isIn_1 rfl (lv_at hl 1 rfl) ?_
  refine lv_ishr hx hb dX12_isIn_2 ?_
  refine r_val (v := (zI (((m9 >>> k) : Nat) : Int))) (zb_shr (a := m9) (n := k) (by omega) (by omega)) ?_
  have q1 := shr_le m9 k
  refine lv_iconst (v := zI 1) hx hb dX12_isIn_3 rfl ?_
  refine lv_iand hx hb dX12_isIn_4 ?_
  refine r_val (v := (zI (((tb m9 k) : Nat) : Int))) zb_tst ?_
  have q2 := tb01 m9 k
  refine lv_iconst (v := zI 1) hx hb dX12_isIn_5 rfl ?_
  refine z_icmp_ne (tgt := 13) hx hb (by omega) (by omega) dX12_isIn_6 (by decide) (fun c3 => ?_) (fun c3 => ?_)
  · refine lv_iconst (v := zI 0) hx hb dX12_isIn_13 rfl ?_
    exact e_z F w hr hlocks (by decide) ⟨Or.inr ⟨fun h9 => by have := tbo.mpr h9; omega, rfl⟩, rfl⟩ dX12_isIn_14
  · refine lv_iconst (v := zI 1) hx hb dX12_isIn_9 rfl ?_
    refine lv_goto (tgt := 14) hx hb dX12_isIn_10 (by decide) ?_
    exact e_z F w hr hlocks (by decide) ⟨Or.inl ⟨tbo.mp (by omega), rfl⟩, rfl⟩ dX12_isIn_14
theorem dX12_bitsOf_4 : decode cX12_bitsOf 4 = .ok (.iload_n 2, 1) := by decide +kernel
theorem dX12_bitsOf_5 : decode cX12_bitsOf 5 = .ok (.ifCond .eq 15, 3) := by decide +kernel
theorem dX12_bitsOf_8 : decode cX12_bitsOf 8 = .ok (.iinc 1 1, 3) := by decide +kernel
theorem dX12_bitsOf_11 : decode cX12_bitsOf 11 = .ok (.iload_n 2, 1) := by decide +kernel
theorem dX12_bitsOf_12 : decode cX12_bitsOf 12 = .ok (.iload_n 2, 1) := by decide +kernel
theorem dX12_bitsOf_13 : decode cX12_bitsOf 13 = .ok (.iconst 1, 1) := by decide +kernel
theorem dX12_bitsOf_14 : decode cX12_bitsOf 14 = .ok (.isub, 1) := by decide +kernel
theorem dX12_bitsOf_15 : decode cX12_bitsOf 15 = .ok (.iand, 1) := by decide +kernel
theorem dX12_bitsOf_16 : decode cX12_bitsOf 16 = .ok (.istore_n 2, 1) := by decide +kernel
theorem dX12_bitsOf_17 : decode cX12_bitsOf 17 = .ok (.goto (-13), 3) := by decide +kernel
set_option maxRecDepth 4000 in
theorem lp_X12_bitsOf {p : Program} {l : Launch} {e : Env} {s : State} {m : MethodId} {args : Array Value} {below : List Frame} {meth : Method} {c : Code} {D : va_G} {B : Nat} {cy : Nat → ClassId} {H0 : Heap} {Q : State → Prop} {M : Mem} {R : Room} {m9 : Nat} (F : CallFix p m c cX12_bitsOf 3 s args TB RX12) (hR1 : 0 ≤ R.frames) (hR2 : 0 ≤ R.locals) (hm : m9 < 4096) (kk : ∀ (x : Nat) (y : Nat) (H : Heap) (locs : List Loc) (ls : Array Slot), (y = pop m9) → Wd D B cy s H0 M H locs → lv_has ls 3 [(2, .int (zI (x : Int))), (1, .int (zI (y : Int)))] → W p l e R s m args below meth c H locs 0 0 Q (F0 m 20 ls [])) : ∀ (f : Nat) (x : Nat) (y : Nat), (x < 4096) → (y + pop x = pop m9) → (pop x ≤ f) → ∀ (H : Heap) (locs : List Loc) (ls : Array Slot), Wd D B cy s H0 M H locs → lv_has ls 3 [(2, .int (zI (x : Int))), (1, .int (zI (y : Int)))] → W p l e R s m args below meth c H locs 0 0 Q (F0 m 4 ls []) := by
  have hx := F.1
  have hb := F.2.1
  intro f
  induction f with
  | zero =>
    intro x y i0 i1 hf H locs ls w hl
    have hz9 := (pop_le x i0).2
    refine lv_iload_n hx hb dX12_bitsOf_4 rfl (lv_at hl 0 rfl) ?_
    refine z_if_eq (tgt := 20) hx hb (by omega) dX12_bitsOf_5 (by decide) (fun c1 => ?_) (fun c1 => False.elim (by omega))
    exact kk x y _ _ ls (pop_0 (by omega) i1) w (lv_sub hl [0, 1] rfl)
  | succ f ih =>
    intro x y i0 i1 hf H locs ls w hl
    have hz9 := (pop_le x i0).2
    refine lv_iload_n hx hb dX12_bitsOf_4 rfl (lv_at hl 0 rfl) ?_
    refine z_if_eq (tgt := 20) hx hb (by omega) dX12_bitsOf_5 (by decide) (fun c1 => ?_) (fun c1 => ?_)
    · exact kk x y _ _ ls (pop_0 (by omega) i1) w (lv_sub hl [0, 1] rfl)
    · refine z_iinc (v := (((y + 1) : Nat) : Int)) (lv' := [(1, .int (zI (((y + 1) : Nat) : Int))), (2, .int (zI (x : Int)))]) hx hb dX12_bitsOf_8 hl (k := 1) rfl (by omega) (by decide) rfl (fun ls hl => ?_)
      refine lv_iload_n hx hb dX12_bitsOf_11 rfl (lv_at hl 1 rfl) ?_
      refine lv_iload_n hx hb dX12_bitsOf_12 rfl (lv_at hl 1 rfl) ?_
      refine lv_iconst (v := zI 1) hx hb dX12_bitsOf_13 rfl ?_
      refine z_isub (z := ((x : Int) - 1)) hx hb dX12_bitsOf_14 (by omega) ?_
      refine r_val (v := (zI (((x - 1) : Nat) : Int))) (congrArg zI (by omega)) ?_
      refine lv_iand hx hb dX12_bitsOf_15 ?_
      refine r_val (v := (zI (((x &&& (x - 1)) : Nat) : Int))) (zb_and x (x - 1)) ?_
      have q2 := (Nat.and_le_left : x &&& (x - 1) ≤ _)
      refine lv_istore_n (lv' := [(2, .int (zI (((x &&& (x - 1)) : Nat) : Int))), (1, .int (zI (((y + 1) : Nat) : Int)))]) hx hb dX12_bitsOf_16 rfl hl (by decide) rfl (fun ls hl => ?_)
      refine lv_goto (tgt := 4) hx hb dX12_bitsOf_17 (by decide) ?_
      have hpd := pop_dec x i0 (by omega)
      exact ih (x &&& (x - 1)) (y + 1) (by omega) (pop_step (by omega) (by omega) i1) (by omega) _ _ ls w (lv_sub hl [0, 1] rfl)
theorem dX12_bitsOf_0 : decode cX12_bitsOf 0 = .ok (.iconst 0, 1) := by decide +kernel
theorem dX12_bitsOf_1 : decode cX12_bitsOf 1 = .ok (.istore_n 1, 1) := by decide +kernel
theorem dX12_bitsOf_2 : decode cX12_bitsOf 2 = .ok (.iload_n 0, 1) := by decide +kernel
theorem dX12_bitsOf_3 : decode cX12_bitsOf 3 = .ok (.istore_n 2, 1) := by decide +kernel
theorem dX12_bitsOf_20 : decode cX12_bitsOf 20 = .ok (.iload_n 1, 1) := by decide +kernel
theorem dX12_bitsOf_21 : decode cX12_bitsOf 21 = .ok (.ireturn, 1) := by decide +kernel
set_option maxRecDepth 4000 in
theorem s_X12_bitsOf {l : Launch} {D : va_G} {B : Nat} {cy : Nat → ClassId} {M : Mem} {m9 : Nat} (hm : m9 < 4096) : Ci l D B cy yX12_bitsOf cX12_bitsOf 3 (some .int) 0 0 [.int (zI (m9 : Int))] M (fun r M1 => r = zI ((pop m9 : Nat) : Int) ∧ M1 = M) := by
  refine s_any (by decide) (Nat.le_of_ble_eq_true rfl) ?_
  intro p e s m below meth c ls F hr hlocks w hl
  have F : CallFix p m c cX12_bitsOf 3 s _ TB RX12 := F
  have hx := F.1
  have hb := F.2.1
  have hl : lv_has ls 3 [(0, .int (zI (m9 : Int)))] := hl
  refine lv_iconst (v := zI 0) hx hb dX12_bitsOf_0 rfl ?_
  refine lv_istore_n (lv' := [(1, .int (zI 0)), (0, .int (zI (m9 : Int)))]) hx hb dX12_bitsOf_1 rfl hl (by decide) rfl (fun ls hl => ?_)
  refine lv_iload_n hx hb dX12_bitsOf_2 rfl (lv_at hl 1 rfl) ?_
  refine lv_istore_n (lv' := [(2, .int (zI (m9 : Int))), (1, .int (zI 0)), (0, .int (zI (m9 : Int)))]) hx hb dX12_bitsOf_3 rfl hl (by decide) rfl (fun ls hl => ?_)
  refine lp_X12_bitsOf  F (Nat.le_of_ble_eq_true rfl) (Nat.le_of_ble_eq_true rfl) hm (fun x y H locs ls x0 w hl => ?_) (pop m9) m9 0 hm (by omega) (by omega) _ _ ls w (lv_sub hl [0, 1] rfl)
  subst x0
  refine lv_iload_n hx hb dX12_bitsOf_20 rfl (lv_at hl 1 rfl) ?_
  exact e_i F w hr hlocks ⟨rfl, rfl⟩ dX12_bitsOf_21
theorem dX12_firstOf_8 : decode cX12_firstOf 8 = .ok (.iload_n 0, 1) := by decide +kernel
theorem dX12_firstOf_9 : decode cX12_firstOf 9 = .ok (.iload_n 1, 1) := by decide +kernel
theorem dX12_firstOf_10 : decode cX12_firstOf 10 = .ok (.invokestatic 51, 3) := by decide +kernel
theorem tk_X12_isIn : Cond.code yX12_isIn cX12_isIn 2 (some .boolean) ∈ TB := tbm (tc5 (List.mem_of_getElem? (i := 188) rfl)) rfl
theorem gc_X12_isIn : GoodIn TB (cw yX12_isIn cX12_isIn 2 (some .boolean)) := goodIn_c2 tk_X12_isIn
theorem tb_36 : Cond.methodLink "ToneLinesModel" 51 yX12_isIn ∈ TB := tbm (tc5 (List.mem_of_getElem? (i := 186) rfl)) rfl
theorem tb_37 : Cond.static yX12_isIn ∈ TB := tbm (tc5 (List.mem_of_getElem? (i := 187) rfl)) rfl
theorem tb_38 : Cond.initialized "ToneLinesModel" ∈ TB := tbm (tc1 (List.mem_of_getElem? (i := 13) rfl)) rfl
theorem gs_X12_51 : GoodIn TB (va_wsS RX12 51 yX12_isIn (cw yX12_isIn cX12_isIn 2 (some .boolean))) := goodIn_3 tb_36 tb_37 tb_38 gc_X12_isIn
theorem hs_X12_isIn : yX12_isIn.cls ≠ "java/lang/invoke/MethodHandle" ∧ yX12_isIn.cls ≠ "java/lang/invoke/VarHandle" ∧ (parseMethodDescriptor yX12_isIn.desc).map (fun d => d.parameters.length) = some 2 := by decide +kernel
theorem dX12_firstOf_13 : decode cX12_firstOf 13 = .ok (.ifCond .ne 9, 3) := by decide +kernel
theorem dX12_firstOf_16 : decode cX12_firstOf 16 = .ok (.iinc 1 1, 3) := by decide +kernel
theorem dX12_firstOf_19 : decode cX12_firstOf 19 = .ok (.goto (-11), 3) := by decide +kernel
set_option maxRecDepth 4000 in
theorem lp_X12_firstOf {p : Program} {l : Launch} {e : Env} {s : State} {m : MethodId} {args : Array Value} {below : List Frame} {meth : Method} {c : Code} {D : va_G} {B : Nat} {cy : Nat → ClassId} {H0 : Heap} {Q : State → Prop} {M : Mem} {R : Room} {m9 : Nat} (F : CallFix p m c cX12_firstOf 2 s args TB RX12) (hR1 : 1 ≤ R.frames) (hR2 : 21 ≤ R.locals) (hm : m9 < 4096) (hm0 : m9 ≠ 0) (kk : ∀ (k : Nat) (H : Heap) (locs : List Loc) (ls : Array Slot), ((k : Int) = lowI m9) → Wd D B cy s H0 M H locs → lv_has ls 2 [(1, .int (zI (k : Int))), (0, .int (zI (m9 : Int)))] → W p l e R s m args below meth c H locs 0 0 Q (F0 m 22 ls [])) : ∀ (f : Nat) (k : Nat), (k ≤ low m9) → (∀ i, i < k → m9.testBit i = false) → (low m9 ≤ k + f) → ∀ (H : Heap) (locs : List Loc) (ls : Array Slot), Wd D B cy s H0 M H locs → lv_has ls 2 [(1, .int (zI (k : Int))), (0, .int (zI (m9 : Int)))] → W p l e R s m args below meth c H locs 0 0 Q (F0 m 8 ls []) := by
  have hx := F.1
  have hb := F.2.1
  have hl12 := low12 hm hm0
  intro f
  induction f with
  | zero =>
    intro k i0 i1 hf H locs ls w hl
    refine lv_iload_n hx hb dX12_firstOf_8 rfl (lv_at hl 1 rfl) ?_
    refine lv_iload_n hx hb dX12_firstOf_9 rfl (lv_at hl 0 rfl) ?_
    refine k_Si F w (As := [.int (zI (m9 : Int)), .int (zI (k : Int))]) (rest := []) (s_X12_isIn (m9 := m9) (k := k) (by omega) (by omega)) gs_X12_51 hs_X12_isIn ⟨(by omega), (by omega)⟩ hl.1 rfl (Nat.le_of_ble_eq_true rfl) ⟨Nat.zero_le _, Nat.zero_le _⟩ dX12_firstOf_10 (fun r M1 H locs hp w => ?_)
    rcases hp with ⟨⟨hb1, rfl⟩ | ⟨hb1, rfl⟩, hMe⟩
    · rw [hMe] at w
      refine z_if_ne (tgt := 22) hx hb (by omega) dX12_firstOf_13 (by decide) (fun c2 => ?_) (fun c2 => False.elim (by omega))
      exact kk k _ _ ls (low_is hm (by assumption) i1) w (lv_sub hl [0, 1] rfl)
    · rw [hMe] at w
      refine z_if_ne (tgt := 22) hx hb (by omega) dX12_firstOf_13 (by decide) (fun c3 => False.elim (by omega)) (fun c3 => ?_)
      refine z_iinc (v := (((k + 1) : Nat) : Int)) (lv' := [(1, .int (zI (((k + 1) : Nat) : Int))), (0, .int (zI (m9 : Int)))]) hx hb dX12_firstOf_16 hl (k := 0) rfl (by omega) (by decide) rfl (fun ls hl => ?_)
      refine lv_goto (tgt := 8) hx hb dX12_firstOf_19 (by decide) ?_
      exact False.elim (by have h9 := low_go hm hm0 i0 (by assumption); omega)
  | succ f ih =>
    intro k i0 i1 hf H locs ls w hl
    refine lv_iload_n hx hb dX12_firstOf_8 rfl (lv_at hl 1 rfl) ?_
    refine lv_iload_n hx hb dX12_firstOf_9 rfl (lv_at hl 0 rfl) ?_
    refine k_Si F w (As := [.int (zI (m9 : Int)), .int (zI (k : Int))]) (rest := []) (s_X12_isIn (m9 := m9) (k := k) (by omega) (by omega)) gs_X12_51 hs_X12_isIn ⟨(by omega), (by omega)⟩ hl.1 rfl (Nat.le_of_ble_eq_true rfl) ⟨Nat.zero_le _, Nat.zero_le _⟩ dX12_firstOf_10 (fun r M1 H locs hp w => ?_)
    rcases hp with ⟨⟨hb1, rfl⟩ | ⟨hb1, rfl⟩, hMe⟩
    · rw [hMe] at w
      refine z_if_ne (tgt := 22) hx hb (by omega) dX12_firstOf_13 (by decide) (fun c2 => ?_) (fun c2 => False.elim (by omega))
      exact kk k _ _ ls (low_is hm (by assumption) i1) w (lv_sub hl [0, 1] rfl)
    · rw [hMe] at w
      refine z_if_ne (tgt := 22) hx hb (by omega) dX12_firstOf_13 (by decide) (fun c3 => False.elim (by omega)) (fun c3 => ?_)
      refine z_iinc (v := (((k + 1) : Nat) : Int)) (lv' := [(1, .int (zI (((k + 1) : Nat) : Int))), (0, .int (zI (m9 : Int)))]) hx hb dX12_firstOf_16 hl (k := 0) rfl (by omega) (by decide) rfl (fun ls hl => ?_)
      refine lv_goto (tgt := 8) hx hb dX12_firstOf_19 (by decide) ?_
      exact ih (k + 1) (low_go hm hm0 i0 (by assumption)) (fun i hi => by by_cases h9 : i = k; (subst h9; exact nb (by assumption)); exact i1 i (by omega)) (by omega) _ _ ls w (lv_sub hl [0, 1] rfl)
theorem dX12_firstOf_0 : decode cX12_firstOf 0 = .ok (.iload_n 0, 1) := by decide +kernel
theorem dX12_firstOf_1 : decode cX12_firstOf 1 = .ok (.ifCond .ne 5, 3) := by decide +kernel
theorem dX12_firstOf_6 : decode cX12_firstOf 6 = .ok (.iconst 0, 1) := by decide +kernel
theorem dX12_firstOf_7 : decode cX12_firstOf 7 = .ok (.istore_n 1, 1) := by decide +kernel
theorem dX12_firstOf_22 : decode cX12_firstOf 22 = .ok (.iload_n 1, 1) := by decide +kernel
theorem dX12_firstOf_23 : decode cX12_firstOf 23 = .ok (.ireturn, 1) := by decide +kernel
theorem dX12_firstOf_4 : decode cX12_firstOf 4 = .ok (.iconst (-1), 1) := by decide +kernel
theorem dX12_firstOf_5 : decode cX12_firstOf 5 = .ok (.ireturn, 1) := by decide +kernel
set_option maxRecDepth 4000 in
theorem s_X12_firstOf {l : Launch} {D : va_G} {B : Nat} {cy : Nat → ClassId} {M : Mem} {m9 : Nat} (hm : m9 < 4096) : Ci l D B cy yX12_firstOf cX12_firstOf 2 (some .int) 1 21 [.int (zI (m9 : Int))] M (fun r M1 => r = zI (lowI m9) ∧ M1 = M) := by
  refine s_any (by decide) (Nat.le_of_ble_eq_true rfl) ?_
  intro p e s m below meth c ls F hr hlocks w hl
  have F : CallFix p m c cX12_firstOf 2 s _ TB RX12 := F
  have hx := F.1
  have hb := F.2.1
  have hl : lv_has ls 2 [(0, .int (zI (m9 : Int)))] := hl
  refine lv_iload_n hx hb dX12_firstOf_0 rfl (lv_at hl 0 rfl) ?_
  refine z_if_ne (tgt := 6) hx hb (by omega) dX12_firstOf_1 (by decide) (fun c1 => ?_) (fun c1 => ?_)
  · refine lv_iconst (v := zI 0) hx hb dX12_firstOf_6 rfl ?_
    refine lv_istore_n (lv' := [(1, .int (zI 0)), (0, .int (zI (m9 : Int)))]) hx hb dX12_firstOf_7 rfl hl (by decide) rfl (fun ls hl => ?_)
    refine lp_X12_firstOf  F (Nat.le_of_ble_eq_true rfl) (Nat.le_of_ble_eq_true rfl) hm (by omega) (fun k H locs ls x0 w hl => ?_) (low m9) 0 (by omega) (fun i hi => absurd hi (Nat.not_lt_zero i)) (by omega) _ _ ls w (lv_sub hl [0, 1] rfl)
    refine lv_iload_n hx hb dX12_firstOf_22 rfl (lv_at hl 0 rfl) ?_
    exact e_i F w hr hlocks ⟨congrArg zI x0, rfl⟩ dX12_firstOf_23
  · refine lv_iconst (v := zI (-1)) hx hb dX12_firstOf_4 rfl ?_
    exact e_i F w hr hlocks ⟨by rw [lowI_0 (by omega)], rfl⟩ dX12_firstOf_5
