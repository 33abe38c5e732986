theorem rdJ7_fill_53178_5 : decode cJ7_fill_53178 5 = .ok (.iload_n 2, 1) := dq0 kk_28 (by decide +kernel)
theorem rdJ7_fill_53178_6 : decode cJ7_fill_53178 6 = .ok (.iload_n 3, 1) := dq0 kk_29 (by decide +kernel)
theorem rdJ7_fill_53178_7 : decode cJ7_fill_53178 7 = .ok (.if_icmp .ge 13, 3) := dqT kk_162 (by decide +kernel)
theorem rdJ7_fill_53178_10 : decode cJ7_fill_53178 10 = .ok (.aload_n 0, 1) := dq0 kk_42 (by decide +kernel)
theorem rdJ7_fill_53178_11 : decode cJ7_fill_53178 11 = .ok (.iload_n 2, 1) := dq0 kk_28 (by decide +kernel)
theorem rdJ7_fill_53178_12 : decode cJ7_fill_53178 12 = .ok (.iload_n 1, 1) := dq0 kk_27 (by decide +kernel)
theorem rdJ7_fill_53178_13 : decode cJ7_fill_53178 13 = .ok (.iastore, 1) := dq0 kk_79 (by decide +kernel)
theorem rdJ7_fill_53178_14 : decode cJ7_fill_53178 14 = .ok (.iinc 2 1, 3) := dqI kk_132 (by decide +kernel)
theorem rdJ7_fill_53178_17 : decode cJ7_fill_53178 17 = .ok (.goto (-12), 3) := dqT kk_167 (by decide +kernel)
set_option maxRecDepth 4000 in
theorem lp_fill {p : Program} {l : Launch} {e : Env} {s : State} {m : MethodId} {args : Array Value} {below : List Frame} {meth : Method} {c : Code} {D : va_G} {B : Nat} {cy : Nat → ClassId} {H0 : Heap} {Q : State → Prop} {M : Mem} {R : Room} {a1 : Nat} {v : Int} (F : CallFix p m c cJ7_fill_53178 4 s args TB RJ7) (hR1 : 0 ≤ R.frames) (hR2 : 0 ≤ R.locals) (hk : kd a1 = (22, 8, 0)) (kk : ∀ (i : Nat) (Nm : Mem) (H : Heap) (locs : List Loc) (ls : Array Slot), (∀ k, k < 8 → Nm.1 a1 k = zI v) → (∀ a, a ≠ a1 → Nm.1 a = M.1 a) → (Nm.2 = M.2) → Wd D B cy s H0 Nm H locs → lv_has ls 4 [(3, .int (zI 8)), (2, .int (zI (i : Int))), (0, .ref (B + a1)), (1, .int (zI v))] → W p l e R s m args below meth c H locs 0 0 Q (F0 m 20 ls [])) : ∀ (f : Nat) (i : Nat) (Nm : Mem), (i ≤ 8) → (∀ k, k < i → Nm.1 a1 k = zI v) → (∀ a, a ≠ a1 → Nm.1 a = M.1 a) → (Nm.2 = M.2) → (8 ≤ i + f) → ∀ (H : Heap) (locs : List Loc) (ls : Array Slot), Wd D B cy s H0 Nm H locs → lv_has ls 4 [(3, .int (zI 8)), (2, .int (zI (i : Int))), (0, .ref (B + a1)), (1, .int (zI v))] → W p l e R s m args below meth c H locs 0 0 Q (F0 m 5 ls []) := by
  have hx := F.1
  have hb := F.2.1
  intro f
  induction f with
  | zero =>
    intro i Nm i0 i1 i2 i3 hf H locs ls w hl
    refine lv_iload_n hx hb rdJ7_fill_53178_5 rfl (lv_at hl 1 rfl) ?_
    refine lv_iload_n hx hb rdJ7_fill_53178_6 rfl (lv_at hl 0 rfl) ?_
    refine z_icmp_ge (tgt := 20) hx hb (by omega) (by omega) rdJ7_fill_53178_7 (by decide) (fun c1 => ?_) (fun c1 => False.elim (by omega))
    exact kk i Nm _ _ ls (fun k hk9 => i1 k (by omega)) i2 i3 w (lv_sub hl [0, 1, 2, 3] rfl)
  | succ f ih =>
    intro i Nm i0 i1 i2 i3 hf H locs ls w hl
    refine lv_iload_n hx hb rdJ7_fill_53178_5 rfl (lv_at hl 1 rfl) ?_
    refine lv_iload_n hx hb rdJ7_fill_53178_6 rfl (lv_at hl 0 rfl) ?_
    refine z_icmp_ge (tgt := 20) hx hb (by omega) (by omega) rdJ7_fill_53178_7 (by decide) (fun c1 => ?_) (fun c1 => ?_)
    · exact kk i Nm _ _ ls (fun k hk9 => i1 k (by omega)) i2 i3 w (lv_sub hl [0, 1, 2, 3] rfl)
    · refine lv_aload_n hx hb rdJ7_fill_53178_10 rfl (lv_at hl 2 rfl) ?_
      refine lv_iload_n hx hb rdJ7_fill_53178_11 rfl (lv_at hl 1 rfl) ?_
      refine lv_iload_n hx hb rdJ7_fill_53178_12 rfl (lv_at hl 3 rfl) ?_
      refine g_iast F w (a := a1) hk (j := i) (ix_n (by omega)) (by omega) rdJ7_fill_53178_13 (fun H locs w => ?_)
      refine z_iinc (v := (((i + 1) : Nat) : Int)) (lv' := [(2, .int (zI (((i + 1) : Nat) : Int))), (3, .int (zI 8)), (0, .ref (B + a1)), (1, .int (zI v))]) hx hb rdJ7_fill_53178_14 hl (k := 1) rfl (by omega) (by decide) rfl (fun ls hl => ?_)
      refine lv_goto (tgt := 5) hx hb rdJ7_fill_53178_17 (by decide) ?_
      exact ih (i + 1) (st Nm a1 i (zI v)) (by omega) (fun k hk9 => by by_cases h9 : k = i; (subst h9; exact st_at); (rw [st_k h9]; exact i1 k (by omega))) (fun a ha => (st_o ha).trans (i2 a ha)) i3 (by omega) _ _ ls w (lv_sub hl [1, 0, 2, 3] rfl)
theorem rdJ7_fill_53178_0 : decode cJ7_fill_53178 0 = .ok (.iconst 0, 1) := dq0 kk_3 (by decide +kernel)
theorem rdJ7_fill_53178_1 : decode cJ7_fill_53178 1 = .ok (.istore_n 2, 1) := dq0 kk_61 (by decide +kernel)
theorem rdJ7_fill_53178_2 : decode cJ7_fill_53178 2 = .ok (.aload_n 0, 1) := dq0 kk_42 (by decide +kernel)
theorem rdJ7_fill_53178_3 : decode cJ7_fill_53178 3 = .ok (.arraylength, 1) := dq0 kk_190 (by decide +kernel)
theorem rdJ7_fill_53178_4 : decode cJ7_fill_53178 4 = .ok (.istore_n 3, 1) := dq0 kk_62 (by decide +kernel)
theorem rdJ7_fill_53178_20 : decode cJ7_fill_53178 20 = .ok (.return_, 1) := dq0 kk_177 (by decide +kernel)
set_option maxRecDepth 4000 in
theorem s_fill {l : Launch} {D : va_G} {B : Nat} {cy : Nat → ClassId} {M : Mem} {a1 : Nat} (hk : kd a1 = (22, 8, 0)) {v : Int} : Cv l D B cy yJ7_fill_53178 cJ7_fill_53178 4 0 0 [.ref (B + a1), .int (zI v)] M (fun M1 => (∀ k, k < 8 → M1.1 a1 k = zI v) ∧ (∀ a, a ≠ a1 → M1.1 a = M.1 a) ∧ M1.2 = M.2) := by
  refine s_any (by decide) (Nat.le_of_ble_eq_true rfl) ?_
  intro p e s m below meth c ls F hr hlocks w hl
  have F : CallFix p m c cJ7_fill_53178 4 s _ TB RJ7 := F
  have hx := F.1
  have hb := F.2.1
  have hl : lv_has ls 4 [(0, .ref (B + a1)), (1, .int (zI v))] := hl
  refine lv_iconst (v := zI 0) hx hb rdJ7_fill_53178_0 rfl ?_
  refine lv_istore_n (lv' := [(2, .int (zI 0)), (0, .ref (B + a1)), (1, .int (zI v))]) hx hb rdJ7_fill_53178_1 rfl hl (by decide) rfl (fun ls hl => ?_)
  refine lv_aload_n hx hb rdJ7_fill_53178_2 rfl (lv_at hl 1 rfl) ?_
  refine g_alen F w (a := a1) (t := 2) (kd_lt hk (by decide)) (by simp only [shp, hk]; rfl) rfl (v := zI 8) rfl rdJ7_fill_53178_3 ?_
  refine lv_istore_n (lv' := [(3, .int (zI 8)), (2, .int (zI 0)), (0, .ref (B + a1)), (1, .int (zI v))]) hx hb rdJ7_fill_53178_4 rfl hl (by decide) rfl (fun ls hl => ?_)
  refine lp_fill  F (Nat.le_of_ble_eq_true rfl) (Nat.le_of_ble_eq_true rfl) hk (fun i Nm H locs ls x0 x1 x2 w hl => ?_) 8 0 M (by omega) (fun k hk9 => absurd hk9 (Nat.not_lt_zero k)) (fun _ _ => rfl) rfl (by omega) _ _ ls w (lv_sub hl [0, 1, 2, 3] rfl)
  exact e_v F w hr hlocks ⟨x0, x1, x2⟩ rdJ7_fill_53178_20
theorem rdX4_clear_0 : decode cX4_clear 0 = .ok (.aload_n 0, 1) := dq0 kk_42 (by decide +kernel)
theorem rdX4_clear_1 : decode cX4_clear 1 = .ok (.getfield 9, 3) := dqV kk_180 (by decide +kernel)
theorem rtb_58 : Cond.fieldLink "ToneLines$Rule" 9 "ToneLines$Rule" "parts" "[I" ∈ TB := tbm (tc1 (List.mem_of_getElem? (i := 74) rfl)) rfl
theorem rdX4_clear_4 : decode cX4_clear 4 = .ok (.bipush (-2), 2) := dqS kk_16 (by decide +kernel)
theorem rdX4_clear_6 : decode cX4_clear 6 = .ok (.invokestatic 15, 3) := dqV kk_184 (by decide +kernel)
theorem rtk_J7_fill_53178 : Cond.code yJ7_fill_53178 cJ7_fill_53178 4 none ∈ TB := tbm (tc3 (List.mem_of_getElem? (i := 63) rfl)) rfl
theorem rgc_J7_fill_53178 : GoodIn TB (cw yJ7_fill_53178 cJ7_fill_53178 4 none) := goodIn_c2 rtk_J7_fill_53178
theorem rtb_59 : Cond.methodLink "ToneLines$Rule" 15 yJ7_fill_53178 ∈ TB := tbm (tc3 (List.mem_of_getElem? (i := 61) rfl)) rfl
theorem rtb_60 : Cond.static yJ7_fill_53178 ∈ TB := tbm (tc3 (List.mem_of_getElem? (i := 62) rfl)) rfl
theorem rtb_61 : Cond.initialized "java/util/Arrays" ∈ TB := tbm (tc1 (List.mem_of_getElem? (i := 21) rfl)) rfl
theorem rgs_X4_15 : GoodIn TB (va_wsS RX4 15 yJ7_fill_53178 (cw yJ7_fill_53178 cJ7_fill_53178 4 none)) := goodIn_3 rtb_59 rtb_60 rtb_61 rgc_J7_fill_53178
theorem rhs_J7_fill_53178 : yJ7_fill_53178.cls ≠ "java/lang/invoke/MethodHandle" ∧ yJ7_fill_53178.cls ≠ "java/lang/invoke/VarHandle" ∧ (parseMethodDescriptor yJ7_fill_53178.desc).map (fun d => d.parameters.length) = some 2 := by decide +kernel
theorem rdX4_clear_9 : decode cX4_clear 9 = .ok (.aload_n 0, 1) := dq0 kk_42 (by decide +kernel)
theorem rdX4_clear_10 : decode cX4_clear 10 = .ok (.getfield 9, 3) := dqV kk_180 (by decide +kernel)
theorem rdX4_clear_13 : decode cX4_clear 13 = .ok (.iconst 1, 1) := dq0 kk_4 (by decide +kernel)
theorem rdX4_clear_14 : decode cX4_clear 14 = .ok (.iconst 0, 1) := dq0 kk_3 (by decide +kernel)
theorem rdX4_clear_15 : decode cX4_clear 15 = .ok (.iastore, 1) := dq0 kk_79 (by decide +kernel)
theorem rdX4_clear_16 : decode cX4_clear 16 = .ok (.aload_n 0, 1) := dq0 kk_42 (by decide +kernel)
theorem rdX4_clear_17 : decode cX4_clear 17 = .ok (.getfield 9, 3) := dqV kk_180 (by decide +kernel)
theorem rdX4_clear_20 : decode cX4_clear 20 = .ok (.bipush 6, 2) := dqS kk_16 (by decide +kernel)
theorem rdX4_clear_22 : decode cX4_clear 22 = .ok (.iconst 0, 1) := dq0 kk_3 (by decide +kernel)
theorem rdX4_clear_23 : decode cX4_clear 23 = .ok (.iastore, 1) := dq0 kk_79 (by decide +kernel)
theorem rdX4_clear_24 : decode cX4_clear 24 = .ok (.return_, 1) := dq0 kk_177 (by decide +kernel)
set_option maxRecDepth 4000 in
theorem s_X4_clear {l : Launch} {D : va_G} {B : Nat} {cy : Nat → ClassId} {M : Mem} {ru : Nat} (hku : kd ru = (4, 0, 0)) : Cv l D B cy yX4_clear cX4_clear 1 1 23 [.ref (B + ru)] M (fun M1 => isU M1 ru P0 ∧ FrU M1 M ru ∧ M1.1 4 = M.1 4) := by
  refine s_any (by decide) (Nat.le_of_ble_eq_true rfl) ?_
  intro p e s m below meth c ls F hr hlocks w hl
  have F : CallFix p m c cX4_clear 1 s _ TB RX4 := F
  have hx := F.1
  have hb := F.2.1
  have hl : lv_has ls 1 [(0, .ref (B + ru))] := hl
  have hru := ru_6 hku
  refine lv_aload_n hx hb rdX4_clear_0 rfl (lv_at hl 0 rfl) ?_
  refine f_4_0 F w (a := ru) hku rtb_58 rdX4_clear_1 ?_
  refine lv_bipush (v := zI (-2)) hx hb rdX4_clear_4 (by decide) ?_
  refine k_Sv F w (As := [.ref (B + (ru + 1)), .int (zI (-2))]) (rest := []) (s_fill (a1 := ru + 1) (kd_r1 hku) (v := -2)) rgs_X4_15 rhs_J7_fill_53178 ⟨(Nat.le_of_ble_eq_true rfl), (Nat.le_of_ble_eq_true rfl)⟩ hl.1 rfl (Nat.le_of_ble_eq_true rfl) ⟨Nat.zero_le _, Nat.zero_le _⟩ rdX4_clear_6 (fun Ma1 H locs hp w => ?_)
  rcases hp with ⟨hf0, hf1, hf2⟩
  refine lv_aload_n hx hb rdX4_clear_9 rfl (lv_at hl 0 rfl) ?_
  refine f_4_0 F w (a := ru) hku rtb_58 rdX4_clear_10 ?_
  refine lv_iconst (v := zI 1) hx hb rdX4_clear_13 rfl ?_
  refine lv_iconst (v := zI 0) hx hb rdX4_clear_14 rfl ?_
  refine g_iast F w (a := (ru + 1)) (kd_r1 hku) (j := 1) ⟨by decide, by decide⟩ (by omega) rdX4_clear_15 (fun H locs w => ?_)
  refine lv_aload_n hx hb rdX4_clear_16 rfl (lv_at hl 0 rfl) ?_
  refine f_4_0 F w (a := ru) hku rtb_58 rdX4_clear_17 ?_
  refine lv_bipush (v := zI 6) hx hb rdX4_clear_20 (by decide) ?_
  refine lv_iconst (v := zI 0) hx hb rdX4_clear_22 rfl ?_
  refine g_iast F w (a := (ru + 1)) (kd_r1 hku) (j := 6) ⟨by decide, by decide⟩ (by omega) rdX4_clear_23 (fun H locs w => ?_)
  exact e_v F w hr hlocks ⟨clear_U hf0, FrU.to (FrU.to ⟨fun a ha hb => hf1 a hb, by rw [hf1 4 (by omega)], hf2⟩ (by omega)) (by omega), by rw [st_o (by omega), st_o (by omega)]; exact hf1 4 (by omega)⟩ rdX4_clear_24
theorem rdX5_readParts_0 : decode cX5_readParts 0 = .ok (.aload_n 1, 1) := dq0 kk_43 (by decide +kernel)
theorem rdX5_readParts_1 : decode cX5_readParts 1 = .ok (.getfield 71, 3) := dqV kk_180 (by decide +kernel)
theorem rdX5_readParts_4 : decode cX5_readParts 4 = .ok (.iconst 0, 1) := dq0 kk_3 (by decide +kernel)
theorem rdX5_readParts_5 : decode cX5_readParts 5 = .ok (.iaload, 1) := dq0 kk_46 (by decide +kernel)
theorem rdX5_readParts_6 : decode cX5_readParts 6 = .ok (.istore_n 2, 1) := dq0 kk_61 (by decide +kernel)
theorem rdX5_readParts_7 : decode cX5_readParts 7 = .ok (.iload_n 2, 1) := dq0 kk_28 (by decide +kernel)
theorem rdX5_readParts_8 : decode cX5_readParts 8 = .ok (.bipush 8, 2) := dqS kk_16 (by decide +kernel)
theorem rdX5_readParts_10 : decode cX5_readParts 10 = .ok (.if_icmp .ne 28, 3) := dqT kk_160 (by decide +kernel)
theorem rdX5_readParts_38 : decode cX5_readParts 38 = .ok (.iload_n 2, 1) := dq0 kk_28 (by decide +kernel)
theorem rdX5_readParts_39 : decode cX5_readParts 39 = .ok (.ifCond .eq 27, 3) := dqT kk_153 (by decide +kernel)
theorem rdX5_readParts_66 : decode cX5_readParts 66 = .ok (.iload_n 2, 1) := dq0 kk_28 (by decide +kernel)
theorem rdX5_readParts_67 : decode cX5_readParts 67 = .ok (.tableswitch 114 0 7 #[45, 54, 45, 79, 45, 114, 114, 88], 45) := by decide +kernel
theorem rdX5_readParts_112 : decode cX5_readParts 112 = .ok (.aload_n 0, 1) := dq0 kk_42 (by decide +kernel)
theorem rdX5_readParts_113 : decode cX5_readParts 113 = .ok (.aload_n 1, 1) := dq0 kk_43 (by decide +kernel)
theorem rdX5_readParts_114 : decode cX5_readParts 114 = .ok (.iconst 4, 1) := dq0 kk_7 (by decide +kernel)
theorem rdX5_readParts_115 : decode cX5_readParts 115 = .ok (.ldc 101, 2) := dqU kk_18 (by decide +kernel)
theorem rdX5_readParts_117 : decode cX5_readParts 117 = .ok (.invokevirtual 77, 3) := dqV kk_182 (by decide +kernel)
theorem rdX5_readParts_120 : decode cX5_readParts 120 = .ok (.ireturn, 1) := dq0 kk_172 (by decide +kernel)
theorem rdX5_readParts_42 : decode cX5_readParts 42 = .ok (.aload_n 0, 1) := dq0 kk_42 (by decide +kernel)
theorem rdX5_readParts_43 : decode cX5_readParts 43 = .ok (.aload_n 1, 1) := dq0 kk_43 (by decide +kernel)
theorem rdX5_readParts_44 : decode cX5_readParts 44 = .ok (.iconst 2, 1) := dq0 kk_5 (by decide +kernel)
theorem rdX5_readParts_45 : decode cX5_readParts 45 = .ok (.iload_n 2, 1) := dq0 kk_28 (by decide +kernel)
theorem rdX5_readParts_46 : decode cX5_readParts 46 = .ok (.bipush 9, 2) := dqS kk_16 (by decide +kernel)
theorem rdX5_readParts_48 : decode cX5_readParts 48 = .ok (.if_icmp .ne 8, 3) := dqT kk_160 (by decide +kernel)
theorem rdX5_readParts_56 : decode cX5_readParts 56 = .ok (.ldc 99, 2) := dqU kk_18 (by decide +kernel)
theorem rdX5_readParts_58 : decode cX5_readParts 58 = .ok (.invokevirtual 77, 3) := dqV kk_182 (by decide +kernel)
theorem rdX5_readParts_61 : decode cX5_readParts 61 = .ok (.ifCond .ne 5, 3) := dqT kk_154 (by decide +kernel)
theorem rdX5_readParts_64 : decode cX5_readParts 64 = .ok (.iconst 0, 1) := dq0 kk_3 (by decide +kernel)
theorem rdX5_readParts_65 : decode cX5_readParts 65 = .ok (.ireturn, 1) := dq0 kk_172 (by decide +kernel)
theorem rdX5_readParts_121 : decode cX5_readParts 121 = .ok (.aload_n 0, 1) := dq0 kk_42 (by decide +kernel)
theorem rdX5_readParts_122 : decode cX5_readParts 122 = .ok (.aload_n 1, 1) := dq0 kk_43 (by decide +kernel)
theorem rdX5_readParts_123 : decode cX5_readParts 123 = .ok (.iconst 4, 1) := dq0 kk_7 (by decide +kernel)
theorem rdX5_readParts_124 : decode cX5_readParts 124 = .ok (.ldc 101, 2) := dqU kk_18 (by decide +kernel)
theorem rdX5_readParts_126 : decode cX5_readParts 126 = .ok (.invokevirtual 77, 3) := dqV kk_182 (by decide +kernel)
theorem rdX5_readParts_129 : decode cX5_readParts 129 = .ok (.ifCond .eq 15, 3) := dqT kk_153 (by decide +kernel)
theorem rdX5_readParts_144 : decode cX5_readParts 144 = .ok (.iconst 0, 1) := dq0 kk_3 (by decide +kernel)
theorem rdX5_readParts_145 : decode cX5_readParts 145 = .ok (.ireturn, 1) := dq0 kk_172 (by decide +kernel)
theorem rdX5_readParts_132 : decode cX5_readParts 132 = .ok (.aload_n 0, 1) := dq0 kk_42 (by decide +kernel)
theorem rdX5_readParts_133 : decode cX5_readParts 133 = .ok (.aload_n 1, 1) := dq0 kk_43 (by decide +kernel)
theorem rdX5_readParts_134 : decode cX5_readParts 134 = .ok (.invokevirtual 92, 3) := dqV kk_182 (by decide +kernel)
theorem rtk_X5_readTimes : Cond.code yX5_readTimes cX5_readTimes 3 (some .boolean) ∈ TB := tbm (tc3 (List.mem_of_getElem? (i := 106) rfl)) rfl
theorem rgc_X5_readTimes : GoodIn TB (cw yX5_readTimes cX5_readTimes 3 (some .boolean)) := goodIn_c2 rtk_X5_readTimes
theorem rtb_62 : Cond.methodLink "ToneLines$RuleReader" 92 yX5_readTimes ∈ TB := tbm (tc3 (List.mem_of_getElem? (i := 103) rfl)) rfl
theorem rtb_63 : Cond.instanceMethod yX5_readTimes ∈ TB := tbm (tc3 (List.mem_of_getElem? (i := 105) rfl)) rfl
theorem rtb_64 : Cond.selects "ToneLines$RuleReader" yX5_readTimes yX5_readTimes ∈ TB := tbp (List.mem_of_getElem? (i := 12) rfl) rfl
theorem rgv_X5_92 : GoodIn TB (wsV RX5 92 RX5 yX5_readTimes (cw yX5_readTimes cX5_readTimes 3 (some .boolean))) := goodIn_4 rtb_62 rtb_63 rtb_64 rtb_37 rgc_X5_readTimes
theorem rhv_X5_readTimes : yX5_readTimes.cls = RX5 ∧ yX5_readTimes.cls ≠ "java/lang/invoke/MethodHandle" ∧ yX5_readTimes.cls ≠ "java/lang/invoke/VarHandle" ∧ (parseMethodDescriptor yX5_readTimes.desc).map (fun d => d.parameters.length) = some 1 := by decide +kernel
theorem rdX5_readParts_137 : decode cX5_readParts 137 = .ok (.ifCond .eq 7, 3) := dqT kk_153 (by decide +kernel)
theorem rdX5_readParts_140 : decode cX5_readParts 140 = .ok (.iconst 1, 1) := dq0 kk_4 (by decide +kernel)
theorem rdX5_readParts_141 : decode cX5_readParts 141 = .ok (.goto 4, 3) := dqT kk_167 (by decide +kernel)
theorem rdX5_readParts_146 : decode cX5_readParts 146 = .ok (.aload_n 0, 1) := dq0 kk_42 (by decide +kernel)
theorem rdX5_readParts_147 : decode cX5_readParts 147 = .ok (.aload_n 1, 1) := dq0 kk_43 (by decide +kernel)
theorem rdX5_readParts_148 : decode cX5_readParts 148 = .ok (.iconst 4, 1) := dq0 kk_7 (by decide +kernel)
theorem rdX5_readParts_149 : decode cX5_readParts 149 = .ok (.ldc 95, 2) := dqU kk_18 (by decide +kernel)
theorem rdX5_readParts_151 : decode cX5_readParts 151 = .ok (.invokevirtual 77, 3) := dqV kk_182 (by decide +kernel)
theorem rdX5_readParts_154 : decode cX5_readParts 154 = .ok (.ireturn, 1) := dq0 kk_172 (by decide +kernel)
theorem rdX5_readParts_181 : decode cX5_readParts 181 = .ok (.iconst 1, 1) := dq0 kk_4 (by decide +kernel)
theorem rdX5_readParts_182 : decode cX5_readParts 182 = .ok (.ireturn, 1) := dq0 kk_172 (by decide +kernel)
theorem rdX5_readParts_155 : decode cX5_readParts 155 = .ok (.aload_n 0, 1) := dq0 kk_42 (by decide +kernel)
theorem rdX5_readParts_156 : decode cX5_readParts 156 = .ok (.ldc 103, 2) := dqU kk_18 (by decide +kernel)
theorem rdX5_readParts_158 : decode cX5_readParts 158 = .ok (.invokevirtual 67, 3) := dqV kk_182 (by decide +kernel)
theorem rdX5_readParts_161 : decode cX5_readParts 161 = .ok (.ifCond .eq 18, 3) := dqT kk_153 (by decide +kernel)
theorem rdX5_readParts_164 : decode cX5_readParts 164 = .ok (.aload_n 0, 1) := dq0 kk_42 (by decide +kernel)
theorem rdX5_readParts_165 : decode cX5_readParts 165 = .ok (.aload_n 1, 1) := dq0 kk_43 (by decide +kernel)
theorem rdX5_readParts_166 : decode cX5_readParts 166 = .ok (.iconst 3, 1) := dq0 kk_6 (by decide +kernel)
theorem rdX5_readParts_167 : decode cX5_readParts 167 = .ok (.ldc 97, 2) := dqU kk_18 (by decide +kernel)
theorem rdX5_readParts_169 : decode cX5_readParts 169 = .ok (.invokevirtual 77, 3) := dqV kk_182 (by decide +kernel)
theorem rdX5_readParts_172 : decode cX5_readParts 172 = .ok (.ifCond .eq 7, 3) := dqT kk_153 (by decide +kernel)
theorem rdX5_readParts_179 : decode cX5_readParts 179 = .ok (.iconst 0, 1) := dq0 kk_3 (by decide +kernel)
theorem rdX5_readParts_180 : decode cX5_readParts 180 = .ok (.ireturn, 1) := dq0 kk_172 (by decide +kernel)
theorem rdX5_readParts_175 : decode cX5_readParts 175 = .ok (.iconst 1, 1) := dq0 kk_4 (by decide +kernel)
theorem rdX5_readParts_176 : decode cX5_readParts 176 = .ok (.goto 4, 3) := dqT kk_167 (by decide +kernel)
theorem rdX5_readParts_51 : decode cX5_readParts 51 = .ok (.ldc 97, 2) := dqU kk_18 (by decide +kernel)
theorem rdX5_readParts_53 : decode cX5_readParts 53 = .ok (.goto 5, 3) := dqT kk_167 (by decide +kernel)
theorem rdX5_readParts_13 : decode cX5_readParts 13 = .ok (.aload_n 0, 1) := dq0 kk_42 (by decide +kernel)
theorem rdX5_readParts_14 : decode cX5_readParts 14 = .ok (.aload_n 1, 1) := dq0 kk_43 (by decide +kernel)
theorem rdX5_readParts_15 : decode cX5_readParts 15 = .ok (.invokevirtual 92, 3) := dqV kk_182 (by decide +kernel)
theorem rdX5_readParts_18 : decode cX5_readParts 18 = .ok (.ifCond .eq 18, 3) := dqT kk_153 (by decide +kernel)
theorem rdX5_readParts_36 : decode cX5_readParts 36 = .ok (.iconst 0, 1) := dq0 kk_3 (by decide +kernel)
theorem rdX5_readParts_37 : decode cX5_readParts 37 = .ok (.ireturn, 1) := dq0 kk_172 (by decide +kernel)
theorem rdX5_readParts_21 : decode cX5_readParts 21 = .ok (.aload_n 0, 1) := dq0 kk_42 (by decide +kernel)
theorem rdX5_readParts_22 : decode cX5_readParts 22 = .ok (.aload_n 1, 1) := dq0 kk_43 (by decide +kernel)
theorem rdX5_readParts_23 : decode cX5_readParts 23 = .ok (.iconst 4, 1) := dq0 kk_7 (by decide +kernel)
theorem rdX5_readParts_24 : decode cX5_readParts 24 = .ok (.ldc 95, 2) := dqU kk_18 (by decide +kernel)
theorem rdX5_readParts_26 : decode cX5_readParts 26 = .ok (.invokevirtual 77, 3) := dqV kk_182 (by decide +kernel)
theorem rdX5_readParts_29 : decode cX5_readParts 29 = .ok (.ifCond .eq 7, 3) := dqT kk_153 (by decide +kernel)
theorem rdX5_readParts_32 : decode cX5_readParts 32 = .ok (.iconst 1, 1) := dq0 kk_4 (by decide +kernel)
theorem rdX5_readParts_33 : decode cX5_readParts 33 = .ok (.goto 4, 3) := dqT kk_167 (by decide +kernel)
set_option maxRecDepth 4000 in
theorem s_X5_readParts {l : Launch} {D : va_G} {B : Nat} {cy : Nat → ClassId} {M : Mem} {T : Nat → Nat} {tn : Nat} (hT : okT T tn) (hTc : isTc M T tn) {x : Nat × Nat × (Nat → Int)} (hx1 : x.1 = 1) (hR : RS M T tn x.2.1) {ru : Nat} (hku : kd ru = (4, 0, 0)) (hU : isU M ru x.2.2) (hv9 : 0 ≤ x.2.2 0 ∧ x.2.2 0 ≤ 9) : Ci l D B cy yX5_readParts cX5_readParts 3 (some .boolean) 6 134 [.ref (B + 4), .ref (B + ru)] M (fun r M1 => XQ T tn M ru (rdP T tn (x.2.2 0) x) r M1) := by
  refine s_any (by decide) (Nat.le_of_ble_eq_true rfl) ?_
  intro p e s m below meth c ls F hr hlocks w hl
  have F : CallFix p m c cX5_readParts 3 s _ TB RX5 := F
  have hx := F.1
  have hb := F.2.1
  have hl : lv_has ls 3 [(0, .ref (B + 4)), (1, .ref (B + ru))] := hl
  have hN := hT.1
  have hb9 := hR.1
  have hskb := sk_le (T := T) hR.1
  have henb := en_le (T := T) hR.1
  have hjn := jn_01 T tn x.2.1
  have hru := ru_6 hku
  refine lv_aload_n hx hb rdX5_readParts_0 rfl (lv_at hl 1 rfl) ?_
  refine f_4_0 F w (a := ru) hku rtb_50 rdX5_readParts_1 ?_
  refine lv_iconst (v := zI 0) hx hb rdX5_readParts_4 rfl ?_
  refine g_iald F w (a := (ru + 1)) (kd_r1 hku) (j := 0) ⟨by decide, by decide⟩ (by omega) rdX5_readParts_5 ?_
  refine r_val (v := (zI (x.2.2 0))) (hU 0 (by decide)) ?_
  refine lv_istore_n (lv' := [(2, .int (zI (x.2.2 0))), (0, .ref (B + 4)), (1, .ref (B + ru))]) hx hb rdX5_readParts_6 rfl hl (by decide) rfl (fun ls hl => ?_)
  refine lv_iload_n hx hb rdX5_readParts_7 rfl (lv_at hl 0 rfl) ?_
  refine lv_bipush (v := zI 8) hx hb rdX5_readParts_8 (by decide) ?_
  refine z_icmp_ne (tgt := 38) hx hb (by omega) (by omega) rdX5_readParts_10 (by decide) (fun c2 => ?_) (fun c2 => ?_)
  · refine lv_iload_n hx hb rdX5_readParts_38 rfl (lv_at hl 0 rfl) ?_
    refine z_if_eq (tgt := 66) hx hb (by omega) rdX5_readParts_39 (by decide) (fun c3 => ?_) (fun c3 => ?_)
    · refine lv_iload_n hx hb rdX5_readParts_66 rfl (lv_at hl 0 rfl) ?_
      rcases (show (x.2.2 0) = 0 by omega) with c4
      refine r_val (v := zI 0) (congrArg zI c4) ?_
      refine lv_tableIn (tgt := 112) hx hb rdX5_readParts_67 (by decide) (by decide) (off := 45) rfl (by decide) ?_
      refine lv_aload_n hx hb rdX5_readParts_112 rfl (lv_at hl 1 rfl) ?_
      refine lv_aload_n hx hb rdX5_readParts_113 rfl (lv_at hl 2 rfl) ?_
      refine lv_iconst (v := zI 4) hx hb rdX5_readParts_114 rfl ?_
      refine va_ldcS F.1 F.2.1 F.2.2.2.1 (show vk_R "ToneLines$RuleReader" 101 "right left" (D.2 200 6) s from (w.2.2.2.2.1 6 (by decide)).1) rdX5_readParts_115 ?_
      refine k_Vi F w (As := [.ref (B + ru), .int (zI 4), .ref (D.2 200 6)]) (rest := []) (a := 4) (kd_lt (a := 4) (show kd 4 = (5, 0, 0) from rfl) (by decide)) (sh_5 rfl _ _) rfl (s_X5_readChoice hT hTc (x := x) hx1 hR hku hU (k := 4) (by decide) (i9 := 6) (show 6 < NSL by decide) (by decide)) rgv_X5_77 rhv_X5_readChoice ⟨(Nat.le_of_ble_eq_true rfl), (Nat.le_of_ble_eq_true rfl)⟩ hl.1 rfl (Nat.le_of_ble_eq_true rfl) ⟨Nat.zero_le _, Nat.zero_le _⟩ rdX5_readParts_117 (fun r Ma6 H locs hp w => ?_)
      obtain ⟨hGy5, hry5, hRy5, hUy5, hFy5⟩ : XQ T tn M ru (rdC T tn 15 16 4 x) r Ma6 := hp
      have hCy5 := isTc.u hTc hFy5 (ru_6 hku)
      have hFy5 : FrU Ma6 M ru := FrU.tr FrU.rf hFy5
      rcases hGy5.1 with gy5 | gy5
      · refine r_val (v := zI 0) (hry5.trans (by rw [gy5]; rfl)) ?_
        exact e_z F w hr hlocks (nar_z (by omega)) (XQ.of ((rdP_0 (by omega)).trans (by rw [(rdK_0 (by omega))])) hGy5 hRy5 hUy5 hFy5 (congrArg (fun q9 : Nat => (q9 : Int)) gy5)) rdX5_readParts_120
      · refine r_val (v := zI 1) (hry5.trans (by rw [gy5]; rfl)) ?_
        exact e_z F w hr hlocks (nar_z (by omega)) (XQ.of ((rdP_0 (by omega)).trans (by rw [(rdK_0 (by omega))])) hGy5 hRy5 hUy5 hFy5 (congrArg (fun q9 : Nat => (q9 : Int)) gy5)) rdX5_readParts_120
    · refine lv_aload_n hx hb rdX5_readParts_42 rfl (lv_at hl 1 rfl) ?_
      refine lv_aload_n hx hb rdX5_readParts_43 rfl (lv_at hl 2 rfl) ?_
      refine lv_iconst (v := zI 2) hx hb rdX5_readParts_44 rfl ?_
      refine lv_iload_n hx hb rdX5_readParts_45 rfl (lv_at hl 0 rfl) ?_
      refine lv_bipush (v := zI 9) hx hb rdX5_readParts_46 (by decide) ?_
      refine z_icmp_ne (tgt := 56) hx hb (by omega) (by omega) rdX5_readParts_48 (by decide) (fun c7 => ?_) (fun c7 => ?_)
      · refine va_ldcS F.1 F.2.1 F.2.2.2.1 (show vk_R "ToneLines$RuleReader" 99 "low mid high any" (D.2 200 5) s from (w.2.2.2.2.1 5 (by decide)).1) rdX5_readParts_56 ?_
        refine k_Vi F w (As := [.ref (B + ru), .int (zI 2), .ref (D.2 200 5)]) (rest := []) (a := 4) (kd_lt (a := 4) (show kd 4 = (5, 0, 0) from rfl) (by decide)) (sh_5 rfl _ _) rfl (s_X5_readChoice hT hTc (x := x) hx1 hR hku hU (k := 2) (by decide) (i9 := 5) (show 5 < NSL by decide) (by decide)) rgv_X5_77 rhv_X5_readChoice ⟨(Nat.le_of_ble_eq_true rfl), (Nat.le_of_ble_eq_true rfl)⟩ hl.1 rfl (Nat.le_of_ble_eq_true rfl) ⟨Nat.zero_le _, Nat.zero_le _⟩ rdX5_readParts_58 (fun r Ma9 H locs hp w => ?_)
        obtain ⟨hGy8, hry8, hRy8, hUy8, hFy8⟩ : XQ T tn M ru (rdC T tn 11 14 2 x) r Ma9 := hp
        have hCy8 := isTc.u hTc hFy8 (ru_6 hku)
        have hFy8 : FrU Ma9 M ru := FrU.tr FrU.rf hFy8
        rcases hGy8.1 with gy8 | gy8
        · refine r_val (v := zI 0) (hry8.trans (by rw [gy8]; rfl)) ?_
          refine z_if_ne (tgt := 66) hx hb (by omega) rdX5_readParts_61 (by decide) (fun c10 => False.elim (by omega)) (fun c10 => ?_)
          refine lv_iconst (v := zI 0) hx hb rdX5_readParts_64 rfl ?_
          exact e_z F w hr hlocks (nar_z (by omega)) (XQ.of ((rdP_f (by omega) (by rw [(rdK_o (by omega) (by omega))]; exact gy8)).trans (rdK_o (by omega) (by omega))) hGy8 hRy8 hUy8 hFy8 (congrArg (fun q9 : Nat => (q9 : Int)) gy8)) rdX5_readParts_65
        · refine r_val (v := zI 1) (hry8.trans (by rw [gy8]; rfl)) ?_
          refine z_if_ne (tgt := 66) hx hb (by omega) rdX5_readParts_61 (by decide) (fun c11 => ?_) (fun c11 => False.elim (by omega))
          refine lv_iload_n hx hb rdX5_readParts_66 rfl (lv_at hl 0 rfl) ?_
          rcases (show (x.2.2 0) = 1 ∨ (x.2.2 0) = 2 ∨ (x.2.2 0) = 3 ∨ (x.2.2 0) = 4 ∨ (x.2.2 0) = 5 ∨ (x.2.2 0) = 6 ∨ (x.2.2 0) = 7 by omega) with c12 | c12 | c12 | c12 | c12 | c12 | c12
          · refine r_val (v := zI 1) (congrArg zI c12) ?_
            refine lv_tableIn (tgt := 121) hx hb rdX5_readParts_67 (by decide) (by decide) (off := 54) rfl (by decide) ?_
            refine lv_aload_n hx hb rdX5_readParts_121 rfl (lv_at hl 1 rfl) ?_
            refine lv_aload_n hx hb rdX5_readParts_122 rfl (lv_at hl 2 rfl) ?_
            refine lv_iconst (v := zI 4) hx hb rdX5_readParts_123 rfl ?_
            refine va_ldcS F.1 F.2.1 F.2.2.2.1 (show vk_R "ToneLines$RuleReader" 101 "right left" (D.2 200 6) s from (w.2.2.2.2.1 6 (by decide)).1) rdX5_readParts_124 ?_
            refine k_Vi F w (As := [.ref (B + ru), .int (zI 4), .ref (D.2 200 6)]) (rest := []) (a := 4) (kd_lt (a := 4) (show kd 4 = (5, 0, 0) from rfl) (by decide)) (sh_5 rfl _ _) rfl (s_X5_readChoice hT hCy8 (x := (rdC T tn 11 14 2 x)) gy8 hRy8 hku hUy8 (k := 4) (by decide) (i9 := 6) (show 6 < NSL by decide) (by decide)) rgv_X5_77 rhv_X5_readChoice ⟨(Nat.le_of_ble_eq_true rfl), (Nat.le_of_ble_eq_true rfl)⟩ hl.1 rfl (Nat.le_of_ble_eq_true rfl) ⟨Nat.zero_le _, Nat.zero_le _⟩ rdX5_readParts_126 (fun r Ma14 H locs hp w => ?_)
            obtain ⟨hGy13, hry13, hRy13, hUy13, hFy13⟩ : XQ T tn Ma9 ru (rdC T tn 15 16 4 (rdC T tn 11 14 2 x)) r Ma14 := hp
            have hCy13 := isTc.u hCy8 hFy13 (ru_6 hku)
            have hFy13 : FrU Ma14 M ru := FrU.tr hFy8 hFy13
            rcases hGy13.1 with gy13 | gy13
            · refine r_val (v := zI 0) (hry13.trans (by rw [gy13]; rfl)) ?_
              refine z_if_eq (tgt := 144) hx hb (by omega) rdX5_readParts_129 (by decide) (fun c15 => ?_) (fun c15 => False.elim (by omega))
              refine lv_iconst (v := zI 0) hx hb rdX5_readParts_144 rfl ?_
              exact e_z F w hr hlocks (nar_z (by omega)) (XQ.of ((rdP_1 (by omega)).trans (by rw [(rdK_o (by omega) (by omega))]; exact rdN_0 gy13)) hGy13 hRy13 hUy13 hFy13 (congrArg (fun q9 : Nat => (q9 : Int)) gy13)) rdX5_readParts_145
            · refine r_val (v := zI 1) (hry13.trans (by rw [gy13]; rfl)) ?_
              refine z_if_eq (tgt := 144) hx hb (by omega) rdX5_readParts_129 (by decide) (fun c16 => False.elim (by omega)) (fun c16 => ?_)
              refine lv_aload_n hx hb rdX5_readParts_132 rfl (lv_at hl 1 rfl) ?_
              refine lv_aload_n hx hb rdX5_readParts_133 rfl (lv_at hl 2 rfl) ?_
              refine k_Vi F w (As := [.ref (B + ru)]) (rest := []) (a := 4) (kd_lt (a := 4) (show kd 4 = (5, 0, 0) from rfl) (by decide)) (sh_5 rfl _ _) rfl (s_X5_readTimes hT hCy13 (x := (rdC T tn 15 16 4 (rdC T tn 11 14 2 x))) gy13 hRy13 hku hUy13 ) rgv_X5_92 rhv_X5_readTimes ⟨(Nat.le_of_ble_eq_true rfl), (Nat.le_of_ble_eq_true rfl)⟩ hl.1 rfl (Nat.le_of_ble_eq_true rfl) ⟨Nat.zero_le _, Nat.zero_le _⟩ rdX5_readParts_134 (fun r Ma18 H locs hp w => ?_)
              obtain ⟨hGy17, hry17, hRy17, hUy17, hFy17⟩ : XQ T tn Ma14 ru (rdN T tn (rdC T tn 15 16 4 (rdC T tn 11 14 2 x))) r Ma18 := hp
              have hCy17 := isTc.u hCy13 hFy17 (ru_6 hku)
              have hFy17 : FrU Ma18 M ru := FrU.tr hFy13 hFy17
              rcases hGy17.1 with gy17 | gy17
              · refine r_val (v := zI 0) (hry17.trans (by rw [gy17]; rfl)) ?_
                refine z_if_eq (tgt := 144) hx hb (by omega) rdX5_readParts_137 (by decide) (fun c19 => ?_) (fun c19 => False.elim (by omega))
                refine lv_iconst (v := zI 0) hx hb rdX5_readParts_144 rfl ?_
                exact e_z F w hr hlocks (nar_z (by omega)) (XQ.of ((rdP_1 (by omega)).trans (by rw [(rdK_o (by omega) (by omega))])) hGy17 hRy17 hUy17 hFy17 (congrArg (fun q9 : Nat => (q9 : Int)) gy17)) rdX5_readParts_145
              · refine r_val (v := zI 1) (hry17.trans (by rw [gy17]; rfl)) ?_
                refine z_if_eq (tgt := 144) hx hb (by omega) rdX5_readParts_137 (by decide) (fun c20 => False.elim (by omega)) (fun c20 => ?_)
                refine lv_iconst (v := zI 1) hx hb rdX5_readParts_140 rfl ?_
                refine lv_goto (tgt := 145) hx hb rdX5_readParts_141 (by decide) ?_
                exact e_z F w hr hlocks (nar_z (by omega)) (XQ.of ((rdP_1 (by omega)).trans (by rw [(rdK_o (by omega) (by omega))])) hGy17 hRy17 hUy17 hFy17 (congrArg (fun q9 : Nat => (q9 : Int)) gy17)) rdX5_readParts_145
          · refine r_val (v := zI 2) (congrArg zI c12) ?_
            refine lv_tableIn (tgt := 112) hx hb rdX5_readParts_67 (by decide) (by decide) (off := 45) rfl (by decide) ?_
            refine lv_aload_n hx hb rdX5_readParts_112 rfl (lv_at hl 1 rfl) ?_
            refine lv_aload_n hx hb rdX5_readParts_113 rfl (lv_at hl 2 rfl) ?_
            refine lv_iconst (v := zI 4) hx hb rdX5_readParts_114 rfl ?_
            refine va_ldcS F.1 F.2.1 F.2.2.2.1 (show vk_R "ToneLines$RuleReader" 101 "right left" (D.2 200 6) s from (w.2.2.2.2.1 6 (by decide)).1) rdX5_readParts_115 ?_
            refine k_Vi F w (As := [.ref (B + ru), .int (zI 4), .ref (D.2 200 6)]) (rest := []) (a := 4) (kd_lt (a := 4) (show kd 4 = (5, 0, 0) from rfl) (by decide)) (sh_5 rfl _ _) rfl (s_X5_readChoice hT hCy8 (x := (rdC T tn 11 14 2 x)) gy8 hRy8 hku hUy8 (k := 4) (by decide) (i9 := 6) (show 6 < NSL by decide) (by decide)) rgv_X5_77 rhv_X5_readChoice ⟨(Nat.le_of_ble_eq_true rfl), (Nat.le_of_ble_eq_true rfl)⟩ hl.1 rfl (Nat.le_of_ble_eq_true rfl) ⟨Nat.zero_le _, Nat.zero_le _⟩ rdX5_readParts_117 (fun r Ma22 H locs hp w => ?_)
            obtain ⟨hGy21, hry21, hRy21, hUy21, hFy21⟩ : XQ T tn Ma9 ru (rdC T tn 15 16 4 (rdC T tn 11 14 2 x)) r Ma22 := hp
            have hCy21 := isTc.u hCy8 hFy21 (ru_6 hku)
            have hFy21 : FrU Ma22 M ru := FrU.tr hFy8 hFy21
            rcases hGy21.1 with gy21 | gy21
            · refine r_val (v := zI 0) (hry21.trans (by rw [gy21]; rfl)) ?_
              exact e_z F w hr hlocks (nar_z (by omega)) (XQ.of ((rdP_0 (by omega)).trans (by rw [(rdK_o (by omega) (by omega))])) hGy21 hRy21 hUy21 hFy21 (congrArg (fun q9 : Nat => (q9 : Int)) gy21)) rdX5_readParts_120
            · refine r_val (v := zI 1) (hry21.trans (by rw [gy21]; rfl)) ?_
              exact e_z F w hr hlocks (nar_z (by omega)) (XQ.of ((rdP_0 (by omega)).trans (by rw [(rdK_o (by omega) (by omega))])) hGy21 hRy21 hUy21 hFy21 (congrArg (fun q9 : Nat => (q9 : Int)) gy21)) rdX5_readParts_120
          · refine r_val (v := zI 3) (congrArg zI c12) ?_
            refine lv_tableIn (tgt := 146) hx hb rdX5_readParts_67 (by decide) (by decide) (off := 79) rfl (by decide) ?_
            refine lv_aload_n hx hb rdX5_readParts_146 rfl (lv_at hl 1 rfl) ?_
            refine lv_aload_n hx hb rdX5_readParts_147 rfl (lv_at hl 2 rfl) ?_
            refine lv_iconst (v := zI 4) hx hb rdX5_readParts_148 rfl ?_
            refine va_ldcS F.1 F.2.1 F.2.2.2.1 (show vk_R "ToneLines$RuleReader" 95 "first last" (D.2 200 3) s from (w.2.2.2.2.1 3 (by decide)).1) rdX5_readParts_149 ?_
            refine k_Vi F w (As := [.ref (B + ru), .int (zI 4), .ref (D.2 200 3)]) (rest := []) (a := 4) (kd_lt (a := 4) (show kd 4 = (5, 0, 0) from rfl) (by decide)) (sh_5 rfl _ _) rfl (s_X5_readChoice hT hCy8 (x := (rdC T tn 11 14 2 x)) gy8 hRy8 hku hUy8 (k := 4) (by decide) (i9 := 3) (show 3 < NSL by decide) (by decide)) rgv_X5_77 rhv_X5_readChoice ⟨(Nat.le_of_ble_eq_true rfl), (Nat.le_of_ble_eq_true rfl)⟩ hl.1 rfl (Nat.le_of_ble_eq_true rfl) ⟨Nat.zero_le _, Nat.zero_le _⟩ rdX5_readParts_151 (fun r Ma24 H locs hp w => ?_)
            obtain ⟨hGy23, hry23, hRy23, hUy23, hFy23⟩ : XQ T tn Ma9 ru (rdC T tn 17 18 4 (rdC T tn 11 14 2 x)) r Ma24 := hp
            have hCy23 := isTc.u hCy8 hFy23 (ru_6 hku)
            have hFy23 : FrU Ma24 M ru := FrU.tr hFy8 hFy23
            rcases hGy23.1 with gy23 | gy23
            · refine r_val (v := zI 0) (hry23.trans (by rw [gy23]; rfl)) ?_
              exact e_z F w hr hlocks (nar_z (by omega)) (XQ.of ((rdP_3 (by omega)).trans (by rw [(rdK_o (by omega) (by omega))])) hGy23 hRy23 hUy23 hFy23 (congrArg (fun q9 : Nat => (q9 : Int)) gy23)) rdX5_readParts_154
            · refine r_val (v := zI 1) (hry23.trans (by rw [gy23]; rfl)) ?_
              exact e_z F w hr hlocks (nar_z (by omega)) (XQ.of ((rdP_3 (by omega)).trans (by rw [(rdK_o (by omega) (by omega))])) hGy23 hRy23 hUy23 hFy23 (congrArg (fun q9 : Nat => (q9 : Int)) gy23)) rdX5_readParts_154
          · refine r_val (v := zI 4) (congrArg zI c12) ?_
            refine lv_tableIn (tgt := 112) hx hb rdX5_readParts_67 (by decide) (by decide) (off := 45) rfl (by decide) ?_
            refine lv_aload_n hx hb rdX5_readParts_112 rfl (lv_at hl 1 rfl) ?_
            refine lv_aload_n hx hb rdX5_readParts_113 rfl (lv_at hl 2 rfl) ?_
            refine lv_iconst (v := zI 4) hx hb rdX5_readParts_114 rfl ?_
            refine va_ldcS F.1 F.2.1 F.2.2.2.1 (show vk_R "ToneLines$RuleReader" 101 "right left" (D.2 200 6) s from (w.2.2.2.2.1 6 (by decide)).1) rdX5_readParts_115 ?_
            refine k_Vi F w (As := [.ref (B + ru), .int (zI 4), .ref (D.2 200 6)]) (rest := []) (a := 4) (kd_lt (a := 4) (show kd 4 = (5, 0, 0) from rfl) (by decide)) (sh_5 rfl _ _) rfl (s_X5_readChoice hT hCy8 (x := (rdC T tn 11 14 2 x)) gy8 hRy8 hku hUy8 (k := 4) (by decide) (i9 := 6) (show 6 < NSL by decide) (by decide)) rgv_X5_77 rhv_X5_readChoice ⟨(Nat.le_of_ble_eq_true rfl), (Nat.le_of_ble_eq_true rfl)⟩ hl.1 rfl (Nat.le_of_ble_eq_true rfl) ⟨Nat.zero_le _, Nat.zero_le _⟩ rdX5_readParts_117 (fun r Ma26 H locs hp w => ?_)
            obtain ⟨hGy25, hry25, hRy25, hUy25, hFy25⟩ : XQ T tn Ma9 ru (rdC T tn 15 16 4 (rdC T tn 11 14 2 x)) r Ma26 := hp
            have hCy25 := isTc.u hCy8 hFy25 (ru_6 hku)
            have hFy25 : FrU Ma26 M ru := FrU.tr hFy8 hFy25
            rcases hGy25.1 with gy25 | gy25
            · refine r_val (v := zI 0) (hry25.trans (by rw [gy25]; rfl)) ?_
              exact e_z F w hr hlocks (nar_z (by omega)) (XQ.of ((rdP_0 (by omega)).trans (by rw [(rdK_o (by omega) (by omega))])) hGy25 hRy25 hUy25 hFy25 (congrArg (fun q9 : Nat => (q9 : Int)) gy25)) rdX5_readParts_120
            · refine r_val (v := zI 1) (hry25.trans (by rw [gy25]; rfl)) ?_
              exact e_z F w hr hlocks (nar_z (by omega)) (XQ.of ((rdP_0 (by omega)).trans (by rw [(rdK_o (by omega) (by omega))])) hGy25 hRy25 hUy25 hFy25 (congrArg (fun q9 : Nat => (q9 : Int)) gy25)) rdX5_readParts_120
          · refine r_val (v := zI 5) (congrArg zI c12) ?_
            refine lv_tableIn (tgt := 181) hx hb rdX5_readParts_67 (by decide) (by decide) (off := 114) rfl (by decide) ?_
            refine lv_iconst (v := zI 1) hx hb rdX5_readParts_181 rfl ?_
            exact e_z F w hr hlocks (nar_z (by omega)) (XQ.of ((rdP_o (by omega)).trans (rdK_o (by omega) (by omega))) hGy8 hRy8 hUy8 hFy8 (congrArg (fun q9 : Nat => (q9 : Int)) gy8)) rdX5_readParts_182
          · refine r_val (v := zI 6) (congrArg zI c12) ?_
            refine lv_tableIn (tgt := 181) hx hb rdX5_readParts_67 (by decide) (by decide) (off := 114) rfl (by decide) ?_
            refine lv_iconst (v := zI 1) hx hb rdX5_readParts_181 rfl ?_
            exact e_z F w hr hlocks (nar_z (by omega)) (XQ.of ((rdP_o (by omega)).trans (rdK_o (by omega) (by omega))) hGy8 hRy8 hUy8 hFy8 (congrArg (fun q9 : Nat => (q9 : Int)) gy8)) rdX5_readParts_182
          · refine r_val (v := zI 7) (congrArg zI c12) ?_
            refine lv_tableIn (tgt := 155) hx hb rdX5_readParts_67 (by decide) (by decide) (off := 88) rfl (by decide) ?_
            refine lv_aload_n hx hb rdX5_readParts_155 rfl (lv_at hl 1 rfl) ?_
            refine va_ldcS F.1 F.2.1 F.2.2.2.1 (show vk_R "ToneLines$RuleReader" 103 "to" (D.2 200 7) s from (w.2.2.2.2.1 7 (by decide)).1) rdX5_readParts_156 ?_
            refine k_Vi F w (As := [.ref (D.2 200 7)]) (rest := []) (a := 4) (kd_lt (a := 4) (show kd 4 = (5, 0, 0) from rfl) (by decide)) (sh_5 rfl _ _) rfl (s_X5_readWord hT hCy8 (x := (rdC T tn 11 14 2 x)) gy8 hRy8 (i9 := 7) (show 7 < NSL by decide) (by decide)) rgv_X5_67 rhv_X5_readWord ⟨(Nat.le_of_ble_eq_true rfl), (Nat.le_of_ble_eq_true rfl)⟩ hl.1 rfl (Nat.le_of_ble_eq_true rfl) ⟨Nat.zero_le _, Nat.zero_le _⟩ rdX5_readParts_158 (fun r Ma28 H locs hp w => ?_)
            rcases (show (tk T tn ((rdC T tn 11 14 2 x)).2.1 19 19 = 0 ∧ r = zI 1 ∧ RS Ma28 T tn (en T tn ((rdC T tn 11 14 2 x)).2.1) ∧ FrQ Ma28 Ma9) ∨ (tk T tn ((rdC T tn 11 14 2 x)).2.1 19 19 ≠ 0 ∧ r = zI 0 ∧ Ma28 = Ma9) from hp) with ⟨hty27, rfl, hRy27, hQy27⟩ | ⟨hty27, rfl, hMe⟩
            · have hCy27 := isTc.q hCy8 hQy27
              have hFy27 : FrU Ma28 M ru := FrU.tr hFy8 (FrU.q hQy27)
              have hUy27 := isU.fr hUy8 (hQy27.1 (ru + 1) (by omega))
              refine z_if_eq (tgt := 179) hx hb (by omega) rdX5_readParts_161 (by decide) (fun c29 => False.elim (by omega)) (fun c29 => ?_)
              have eq30 : (rdW T tn 19 (rdC T tn 11 14 2 x)) = (1, (en T tn ((rdC T tn 11 14 2 x)).2.1), ((rdC T tn 11 14 2 x)).2.2) := rdW_y gy8 hty27
              have gq30 : Prod.fst (rdW T tn 19 (rdC T tn 11 14 2 x)) = 1 := by rw [eq30]
              have Rq30 : RS Ma28 T tn ((rdW T tn 19 (rdC T tn 11 14 2 x))).2.1 := by rw [eq30]; exact hRy27
              have Uq30 : isU Ma28 ru ((rdW T tn 19 (rdC T tn 11 14 2 x))).2.2 := by rw [eq30]; exact hUy27
              refine lv_aload_n hx hb rdX5_readParts_164 rfl (lv_at hl 1 rfl) ?_
              refine lv_aload_n hx hb rdX5_readParts_165 rfl (lv_at hl 2 rfl) ?_
              refine lv_iconst (v := zI 3) hx hb rdX5_readParts_166 rfl ?_
              refine va_ldcS F.1 F.2.1 F.2.2.2.1 (show vk_R "ToneLines$RuleReader" 97 "low mid high" (D.2 200 4) s from (w.2.2.2.2.1 4 (by decide)).1) rdX5_readParts_167 ?_
              refine k_Vi F w (As := [.ref (B + ru), .int (zI 3), .ref (D.2 200 4)]) (rest := []) (a := 4) (kd_lt (a := 4) (show kd 4 = (5, 0, 0) from rfl) (by decide)) (sh_5 rfl _ _) rfl (s_X5_readChoice hT hCy27 (x := (rdW T tn 19 (rdC T tn 11 14 2 x))) gq30 Rq30 hku Uq30 (k := 3) (by decide) (i9 := 4) (show 4 < NSL by decide) (by decide)) rgv_X5_77 rhv_X5_readChoice ⟨(Nat.le_of_ble_eq_true rfl), (Nat.le_of_ble_eq_true rfl)⟩ hl.1 rfl (Nat.le_of_ble_eq_true rfl) ⟨Nat.zero_le _, Nat.zero_le _⟩ rdX5_readParts_169 (fun r Ma32 H locs hp w => ?_)
              obtain ⟨hGy31, hry31, hRy31, hUy31, hFy31⟩ : XQ T tn Ma28 ru (rdC T tn 11 13 3 (rdW T tn 19 (rdC T tn 11 14 2 x))) r Ma32 := hp
              have hCy31 := isTc.u hCy27 hFy31 (ru_6 hku)
              have hFy31 : FrU Ma32 M ru := FrU.tr hFy27 hFy31
              rcases hGy31.1 with gy31 | gy31
              · refine r_val (v := zI 0) (hry31.trans (by rw [gy31]; rfl)) ?_
                refine z_if_eq (tgt := 179) hx hb (by omega) rdX5_readParts_172 (by decide) (fun c33 => ?_) (fun c33 => False.elim (by omega))
                refine lv_iconst (v := zI 0) hx hb rdX5_readParts_179 rfl ?_
                exact e_z F w hr hlocks (nar_z (by omega)) (XQ.of ((rdP_7 (by omega)).trans (by rw [(rdK_o (by omega) (by omega))])) hGy31 hRy31 hUy31 hFy31 (congrArg (fun q9 : Nat => (q9 : Int)) gy31)) rdX5_readParts_180
              · refine r_val (v := zI 1) (hry31.trans (by rw [gy31]; rfl)) ?_
                refine z_if_eq (tgt := 179) hx hb (by omega) rdX5_readParts_172 (by decide) (fun c34 => False.elim (by omega)) (fun c34 => ?_)
                refine lv_iconst (v := zI 1) hx hb rdX5_readParts_175 rfl ?_
                refine lv_goto (tgt := 180) hx hb rdX5_readParts_176 (by decide) ?_
                exact e_z F w hr hlocks (nar_z (by omega)) (XQ.of ((rdP_7 (by omega)).trans (by rw [(rdK_o (by omega) (by omega))])) hGy31 hRy31 hUy31 hFy31 (congrArg (fun q9 : Nat => (q9 : Int)) gy31)) rdX5_readParts_180
            · rw [hMe] at w
              refine z_if_eq (tgt := 179) hx hb (by omega) rdX5_readParts_161 (by decide) (fun c35 => ?_) (fun c35 => False.elim (by omega))
              refine lv_iconst (v := zI 0) hx hb rdX5_readParts_179 rfl ?_
              exact e_z F w hr hlocks (nar_z (by omega)) (XQ.mk0 ((rdP_7 (by omega)).trans (by rw [(rdK_o (by omega) (by omega)), rdW_n gy8 hty27, rdC_0 rfl])) hRy8 hUy8 hFy8) rdX5_readParts_180
      · refine va_ldcS F.1 F.2.1 F.2.2.2.1 (show vk_R "ToneLines$RuleReader" 97 "low mid high" (D.2 200 4) s from (w.2.2.2.2.1 4 (by decide)).1) rdX5_readParts_51 ?_
        refine lv_goto (tgt := 58) hx hb rdX5_readParts_53 (by decide) ?_
        refine k_Vi F w (As := [.ref (B + ru), .int (zI 2), .ref (D.2 200 4)]) (rest := []) (a := 4) (kd_lt (a := 4) (show kd 4 = (5, 0, 0) from rfl) (by decide)) (sh_5 rfl _ _) rfl (s_X5_readChoice hT hTc (x := x) hx1 hR hku hU (k := 2) (by decide) (i9 := 4) (show 4 < NSL by decide) (by decide)) rgv_X5_77 rhv_X5_readChoice ⟨(Nat.le_of_ble_eq_true rfl), (Nat.le_of_ble_eq_true rfl)⟩ hl.1 rfl (Nat.le_of_ble_eq_true rfl) ⟨Nat.zero_le _, Nat.zero_le _⟩ rdX5_readParts_58 (fun r Ma37 H locs hp w => ?_)
        obtain ⟨hGy36, hry36, hRy36, hUy36, hFy36⟩ : XQ T tn M ru (rdC T tn 11 13 2 x) r Ma37 := hp
        have hCy36 := isTc.u hTc hFy36 (ru_6 hku)
        have hFy36 : FrU Ma37 M ru := FrU.tr FrU.rf hFy36
        rcases hGy36.1 with gy36 | gy36
        · refine r_val (v := zI 0) (hry36.trans (by rw [gy36]; rfl)) ?_
          refine z_if_ne (tgt := 66) hx hb (by omega) rdX5_readParts_61 (by decide) (fun c38 => False.elim (by omega)) (fun c38 => ?_)
          refine lv_iconst (v := zI 0) hx hb rdX5_readParts_64 rfl ?_
          exact e_z F w hr hlocks (nar_z (by omega)) (XQ.of ((rdP_f (by omega) (by rw [(rdK_9 (by omega))]; exact gy36)).trans (rdK_9 (by omega))) hGy36 hRy36 hUy36 hFy36 (congrArg (fun q9 : Nat => (q9 : Int)) gy36)) rdX5_readParts_65
        · refine r_val (v := zI 1) (hry36.trans (by rw [gy36]; rfl)) ?_
          refine z_if_ne (tgt := 66) hx hb (by omega) rdX5_readParts_61 (by decide) (fun c39 => ?_) (fun c39 => False.elim (by omega))
          refine lv_iload_n hx hb rdX5_readParts_66 rfl (lv_at hl 0 rfl) ?_
          rcases (show ((x.2.2 0) ≠ 0 ∧ (x.2.2 0) ≠ 1 ∧ (x.2.2 0) ≠ 2 ∧ (x.2.2 0) ≠ 3 ∧ (x.2.2 0) ≠ 4 ∧ (x.2.2 0) ≠ 5 ∧ (x.2.2 0) ≠ 6 ∧ (x.2.2 0) ≠ 7) by omega) with c40
          refine lv_tableOut (tgt := 181) hx hb rdX5_readParts_67 (by rw [zI_toInt (by omega)]; omega) (by decide) ?_
          refine lv_iconst (v := zI 1) hx hb rdX5_readParts_181 rfl ?_
          exact e_z F w hr hlocks (nar_z (by omega)) (XQ.of ((rdP_o (by omega)).trans (rdK_9 (by omega))) hGy36 hRy36 hUy36 hFy36 (congrArg (fun q9 : Nat => (q9 : Int)) gy36)) rdX5_readParts_182
  · refine lv_aload_n hx hb rdX5_readParts_13 rfl (lv_at hl 1 rfl) ?_
    refine lv_aload_n hx hb rdX5_readParts_14 rfl (lv_at hl 2 rfl) ?_
    refine k_Vi F w (As := [.ref (B + ru)]) (rest := []) (a := 4) (kd_lt (a := 4) (show kd 4 = (5, 0, 0) from rfl) (by decide)) (sh_5 rfl _ _) rfl (s_X5_readTimes hT hTc (x := x) hx1 hR hku hU ) rgv_X5_92 rhv_X5_readTimes ⟨(Nat.le_of_ble_eq_true rfl), (Nat.le_of_ble_eq_true rfl)⟩ hl.1 rfl (Nat.le_of_ble_eq_true rfl) ⟨Nat.zero_le _, Nat.zero_le _⟩ rdX5_readParts_15 (fun r Ma42 H locs hp w => ?_)
    obtain ⟨hGy41, hry41, hRy41, hUy41, hFy41⟩ : XQ T tn M ru (rdN T tn x) r Ma42 := hp
    have hCy41 := isTc.u hTc hFy41 (ru_6 hku)
    have hFy41 : FrU Ma42 M ru := FrU.tr FrU.rf hFy41
    rcases hGy41.1 with gy41 | gy41
    · refine r_val (v := zI 0) (hry41.trans (by rw [gy41]; rfl)) ?_
      refine z_if_eq (tgt := 36) hx hb (by omega) rdX5_readParts_18 (by decide) (fun c43 => ?_) (fun c43 => False.elim (by omega))
      refine lv_iconst (v := zI 0) hx hb rdX5_readParts_36 rfl ?_
      exact e_z F w hr hlocks (nar_z (by omega)) (XQ.of ((rdP_8 (by omega)).trans (rdC_0 gy41)) hGy41 hRy41 hUy41 hFy41 (congrArg (fun q9 : Nat => (q9 : Int)) gy41)) rdX5_readParts_37
    · refine r_val (v := zI 1) (hry41.trans (by rw [gy41]; rfl)) ?_
      refine z_if_eq (tgt := 36) hx hb (by omega) rdX5_readParts_18 (by decide) (fun c44 => False.elim (by omega)) (fun c44 => ?_)
      refine lv_aload_n hx hb rdX5_readParts_21 rfl (lv_at hl 1 rfl) ?_
      refine lv_aload_n hx hb rdX5_readParts_22 rfl (lv_at hl 2 rfl) ?_
      refine lv_iconst (v := zI 4) hx hb rdX5_readParts_23 rfl ?_
      refine va_ldcS F.1 F.2.1 F.2.2.2.1 (show vk_R "ToneLines$RuleReader" 95 "first last" (D.2 200 3) s from (w.2.2.2.2.1 3 (by decide)).1) rdX5_readParts_24 ?_
      refine k_Vi F w (As := [.ref (B + ru), .int (zI 4), .ref (D.2 200 3)]) (rest := []) (a := 4) (kd_lt (a := 4) (show kd 4 = (5, 0, 0) from rfl) (by decide)) (sh_5 rfl _ _) rfl (s_X5_readChoice hT hCy41 (x := (rdN T tn x)) gy41 hRy41 hku hUy41 (k := 4) (by decide) (i9 := 3) (show 3 < NSL by decide) (by decide)) rgv_X5_77 rhv_X5_readChoice ⟨(Nat.le_of_ble_eq_true rfl), (Nat.le_of_ble_eq_true rfl)⟩ hl.1 rfl (Nat.le_of_ble_eq_true rfl) ⟨Nat.zero_le _, Nat.zero_le _⟩ rdX5_readParts_26 (fun r Ma46 H locs hp w => ?_)
      obtain ⟨hGy45, hry45, hRy45, hUy45, hFy45⟩ : XQ T tn Ma42 ru (rdC T tn 17 18 4 (rdN T tn x)) r Ma46 := hp
      have hCy45 := isTc.u hCy41 hFy45 (ru_6 hku)
      have hFy45 : FrU Ma46 M ru := FrU.tr hFy41 hFy45
      rcases hGy45.1 with gy45 | gy45
      · refine r_val (v := zI 0) (hry45.trans (by rw [gy45]; rfl)) ?_
        refine z_if_eq (tgt := 36) hx hb (by omega) rdX5_readParts_29 (by decide) (fun c47 => ?_) (fun c47 => False.elim (by omega))
        refine lv_iconst (v := zI 0) hx hb rdX5_readParts_36 rfl ?_
        exact e_z F w hr hlocks (nar_z (by omega)) (XQ.of (rdP_8 (by omega)) hGy45 hRy45 hUy45 hFy45 (congrArg (fun q9 : Nat => (q9 : Int)) gy45)) rdX5_readParts_37
      · refine r_val (v := zI 1) (hry45.trans (by rw [gy45]; rfl)) ?_
        refine z_if_eq (tgt := 36) hx hb (by omega) rdX5_readParts_29 (by decide) (fun c48 => False.elim (by omega)) (fun c48 => ?_)
        refine lv_iconst (v := zI 1) hx hb rdX5_readParts_32 rfl ?_
        refine lv_goto (tgt := 37) hx hb rdX5_readParts_33 (by decide) ?_
        exact e_z F w hr hlocks (nar_z (by omega)) (XQ.of (rdP_8 (by omega)) hGy45 hRy45 hUy45 hFy45 (congrArg (fun q9 : Nat => (q9 : Int)) gy45)) rdX5_readParts_37
theorem rdX5_readRule_0 : decode cX5_readRule 0 = .ok (.aload_n 1, 1) := dq0 kk_43 (by decide +kernel)
theorem rdX5_readRule_1 : decode cX5_readRule 1 = .ok (.invokevirtual 62, 3) := dqV kk_182 (by decide +kernel)
theorem rtk_X4_clear : Cond.code yX4_clear cX4_clear 1 none ∈ TB := tbm (tc3 (List.mem_of_getElem? (i := 60) rfl)) rfl
theorem rgc_X4_clear : GoodIn TB (cw yX4_clear cX4_clear 1 none) := goodIn_c2 rtk_X4_clear
theorem rtb_65 : Cond.methodLink "ToneLines$RuleReader" 62 yX4_clear ∈ TB := tbm (tc3 (List.mem_of_getElem? (i := 57) rfl)) rfl
theorem rtb_66 : Cond.instanceMethod yX4_clear ∈ TB := tbm (tc3 (List.mem_of_getElem? (i := 58) rfl)) rfl
theorem rtb_67 : Cond.selects "ToneLines$Rule" yX4_clear yX4_clear ∈ TB := tbm (tc3 (List.mem_of_getElem? (i := 59) rfl)) rfl
theorem rtb_68 : Cond.initialized "ToneLines$Rule" ∈ TB := tbm (tc1 (List.mem_of_getElem? (i := 5) rfl)) rfl
theorem rgv_X5_62 : GoodIn TB (wsV RX5 62 RX4 yX4_clear (cw yX4_clear cX4_clear 1 none)) := goodIn_4 rtb_65 rtb_66 rtb_67 rtb_68 rgc_X4_clear
theorem rhv_X4_clear : yX4_clear.cls = RX4 ∧ yX4_clear.cls ≠ "java/lang/invoke/MethodHandle" ∧ yX4_clear.cls ≠ "java/lang/invoke/VarHandle" ∧ (parseMethodDescriptor yX4_clear.desc).map (fun d => d.parameters.length) = some 0 := by decide +kernel
theorem rdX5_readRule_4 : decode cX5_readRule 4 = .ok (.aload_n 0, 1) := dq0 kk_42 (by decide +kernel)
theorem rdX5_readRule_5 : decode cX5_readRule 5 = .ok (.ldc 65, 2) := dqU kk_18 (by decide +kernel)
theorem rdX5_readRule_7 : decode cX5_readRule 7 = .ok (.invokevirtual 67, 3) := dqV kk_182 (by decide +kernel)
theorem rdX5_readRule_10 : decode cX5_readRule 10 = .ok (.ifCond .eq 10, 3) := dqT kk_153 (by decide +kernel)
theorem rdX5_readRule_13 : decode cX5_readRule 13 = .ok (.aload_n 1, 1) := dq0 kk_43 (by decide +kernel)
theorem rdX5_readRule_14 : decode cX5_readRule 14 = .ok (.getfield 71, 3) := dqV kk_180 (by decide +kernel)
theorem rdX5_readRule_17 : decode cX5_readRule 17 = .ok (.iconst 1, 1) := dq0 kk_4 (by decide +kernel)
theorem rdX5_readRule_18 : decode cX5_readRule 18 = .ok (.iconst 1, 1) := dq0 kk_4 (by decide +kernel)
theorem rdX5_readRule_19 : decode cX5_readRule 19 = .ok (.iastore, 1) := dq0 kk_79 (by decide +kernel)
theorem rdX5_readRule_20 : decode cX5_readRule 20 = .ok (.aload_n 0, 1) := dq0 kk_42 (by decide +kernel)
theorem rdX5_readRule_21 : decode cX5_readRule 21 = .ok (.aload_n 1, 1) := dq0 kk_43 (by decide +kernel)
theorem rdX5_readRule_22 : decode cX5_readRule 22 = .ok (.iconst 0, 1) := dq0 kk_3 (by decide +kernel)
theorem rdX5_readRule_23 : decode cX5_readRule 23 = .ok (.ldc 75, 2) := dqU kk_18 (by decide +kernel)
theorem rdX5_readRule_25 : decode cX5_readRule 25 = .ok (.invokevirtual 77, 3) := dqV kk_182 (by decide +kernel)
theorem rdX5_readRule_28 : decode cX5_readRule 28 = .ok (.ifCond .eq 11, 3) := dqT kk_153 (by decide +kernel)
theorem rdX5_readRule_39 : decode cX5_readRule 39 = .ok (.iconst 0, 1) := dq0 kk_3 (by decide +kernel)
theorem rdX5_readRule_40 : decode cX5_readRule 40 = .ok (.ireturn, 1) := dq0 kk_172 (by decide +kernel)
theorem rdX5_readRule_31 : decode cX5_readRule 31 = .ok (.aload_n 0, 1) := dq0 kk_42 (by decide +kernel)
theorem rdX5_readRule_32 : decode cX5_readRule 32 = .ok (.aload_n 1, 1) := dq0 kk_43 (by decide +kernel)
theorem rdX5_readRule_33 : decode cX5_readRule 33 = .ok (.invokevirtual 81, 3) := dqV kk_182 (by decide +kernel)
theorem rtk_X5_readParts : Cond.code yX5_readParts cX5_readParts 3 (some .boolean) ∈ TB := tbm (tc3 (List.mem_of_getElem? (i := 102) rfl)) rfl
theorem rgc_X5_readParts : GoodIn TB (cw yX5_readParts cX5_readParts 3 (some .boolean)) := goodIn_c2 rtk_X5_readParts
theorem rtb_69 : Cond.methodLink "ToneLines$RuleReader" 81 yX5_readParts ∈ TB := tbm (tc3 (List.mem_of_getElem? (i := 99) rfl)) rfl
theorem rtb_70 : Cond.instanceMethod yX5_readParts ∈ TB := tbm (tc3 (List.mem_of_getElem? (i := 101) rfl)) rfl
theorem rtb_71 : Cond.selects "ToneLines$RuleReader" yX5_readParts yX5_readParts ∈ TB := tbp (List.mem_of_getElem? (i := 11) rfl) rfl
theorem rgv_X5_81 : GoodIn TB (wsV RX5 81 RX5 yX5_readParts (cw yX5_readParts cX5_readParts 3 (some .boolean))) := goodIn_4 rtb_69 rtb_70 rtb_71 rtb_37 rgc_X5_readParts
theorem rhv_X5_readParts : yX5_readParts.cls = RX5 ∧ yX5_readParts.cls ≠ "java/lang/invoke/MethodHandle" ∧ yX5_readParts.cls ≠ "java/lang/invoke/VarHandle" ∧ (parseMethodDescriptor yX5_readParts.desc).map (fun d => d.parameters.length) = some 1 := by decide +kernel
theorem rdX5_readRule_36 : decode cX5_readRule 36 = .ok (.ifCond .ne 5, 3) := dqT kk_154 (by decide +kernel)
theorem rdX5_readRule_41 : decode cX5_readRule 41 = .ok (.aload_n 1, 1) := dq0 kk_43 (by decide +kernel)
theorem rdX5_readRule_42 : decode cX5_readRule 42 = .ok (.getfield 71, 3) := dqV kk_180 (by decide +kernel)
theorem rdX5_readRule_45 : decode cX5_readRule 45 = .ok (.iconst 0, 1) := dq0 kk_3 (by decide +kernel)
theorem rdX5_readRule_46 : decode cX5_readRule 46 = .ok (.iaload, 1) := dq0 kk_46 (by decide +kernel)
theorem rdX5_readRule_47 : decode cX5_readRule 47 = .ok (.invokestatic 84, 3) := dqV kk_184 (by decide +kernel)
theorem rtk_X5_mayHaveIf : Cond.code yX5_mayHaveIf cX5_mayHaveIf 1 (some .boolean) ∈ TB := tbm (tc3 (List.mem_of_getElem? (i := 115) rfl)) rfl
theorem rgc_X5_mayHaveIf : GoodIn TB (cw yX5_mayHaveIf cX5_mayHaveIf 1 (some .boolean)) := goodIn_c2 rtk_X5_mayHaveIf
theorem rtb_72 : Cond.methodLink "ToneLines$RuleReader" 84 yX5_mayHaveIf ∈ TB := tbm (tc3 (List.mem_of_getElem? (i := 113) rfl)) rfl
theorem rtb_73 : Cond.static yX5_mayHaveIf ∈ TB := tbm (tc3 (List.mem_of_getElem? (i := 114) rfl)) rfl
theorem rgs_X5_84 : GoodIn TB (va_wsS RX5 84 yX5_mayHaveIf (cw yX5_mayHaveIf cX5_mayHaveIf 1 (some .boolean))) := goodIn_3 rtb_72 rtb_73 rtb_37 rgc_X5_mayHaveIf
theorem rhs_X5_mayHaveIf : yX5_mayHaveIf.cls ≠ "java/lang/invoke/MethodHandle" ∧ yX5_mayHaveIf.cls ≠ "java/lang/invoke/VarHandle" ∧ (parseMethodDescriptor yX5_mayHaveIf.desc).map (fun d => d.parameters.length) = some 1 := by decide +kernel
theorem rdX5_readRule_50 : decode cX5_readRule 50 = .ok (.ifCond .eq 22, 3) := dqT kk_153 (by decide +kernel)
theorem rdX5_readRule_53 : decode cX5_readRule 53 = .ok (.aload_n 0, 1) := dq0 kk_42 (by decide +kernel)
theorem rdX5_readRule_54 : decode cX5_readRule 54 = .ok (.ldc 87, 2) := dqU kk_18 (by decide +kernel)
theorem rdX5_readRule_56 : decode cX5_readRule 56 = .ok (.invokevirtual 67, 3) := dqV kk_182 (by decide +kernel)
theorem rdX5_readRule_59 : decode cX5_readRule 59 = .ok (.ifCond .eq 13, 3) := dqT kk_153 (by decide +kernel)
theorem rdX5_readRule_62 : decode cX5_readRule 62 = .ok (.aload_n 0, 1) := dq0 kk_42 (by decide +kernel)
theorem rdX5_readRule_63 : decode cX5_readRule 63 = .ok (.aload_n 1, 1) := dq0 kk_43 (by decide +kernel)
theorem rdX5_readRule_64 : decode cX5_readRule 64 = .ok (.invokevirtual 89, 3) := dqV kk_182 (by decide +kernel)
theorem rtk_X5_readTest : Cond.code yX5_readTest cX5_readTest 3 (some .boolean) ∈ TB := tbm (tc3 (List.mem_of_getElem? (i := 120) rfl)) rfl
theorem rgc_X5_readTest : GoodIn TB (cw yX5_readTest cX5_readTest 3 (some .boolean)) := goodIn_c2 rtk_X5_readTest
theorem rtb_74 : Cond.methodLink "ToneLines$RuleReader" 89 yX5_readTest ∈ TB := tbm (tc3 (List.mem_of_getElem? (i := 117) rfl)) rfl
theorem rtb_75 : Cond.instanceMethod yX5_readTest ∈ TB := tbm (tc3 (List.mem_of_getElem? (i := 119) rfl)) rfl
theorem rtb_76 : Cond.selects "ToneLines$RuleReader" yX5_readTest yX5_readTest ∈ TB := tbp (List.mem_of_getElem? (i := 13) rfl) rfl
theorem rgv_X5_89 : GoodIn TB (wsV RX5 89 RX5 yX5_readTest (cw yX5_readTest cX5_readTest 3 (some .boolean))) := goodIn_4 rtb_74 rtb_75 rtb_76 rtb_37 rgc_X5_readTest
theorem rhv_X5_readTest : yX5_readTest.cls = RX5 ∧ yX5_readTest.cls ≠ "java/lang/invoke/MethodHandle" ∧ yX5_readTest.cls ≠ "java/lang/invoke/VarHandle" ∧ (parseMethodDescriptor yX5_readTest.desc).map (fun d => d.parameters.length) = some 1 := by decide +kernel
theorem rdX5_readRule_67 : decode cX5_readRule 67 = .ok (.ifCond .ne 5, 3) := dqT kk_154 (by decide +kernel)
theorem rdX5_readRule_70 : decode cX5_readRule 70 = .ok (.iconst 0, 1) := dq0 kk_3 (by decide +kernel)
theorem rdX5_readRule_71 : decode cX5_readRule 71 = .ok (.ireturn, 1) := dq0 kk_172 (by decide +kernel)
theorem rdX5_readRule_72 : decode cX5_readRule 72 = .ok (.aload_n 0, 1) := dq0 kk_42 (by decide +kernel)
theorem rdX5_readRule_73 : decode cX5_readRule 73 = .ok (.getfield 31, 3) := dqV kk_180 (by decide +kernel)
theorem rdX5_readRule_76 : decode cX5_readRule 76 = .ok (.aload_n 0, 1) := dq0 kk_42 (by decide +kernel)
theorem rdX5_readRule_77 : decode cX5_readRule 77 = .ok (.getfield 21, 3) := dqV kk_180 (by decide +kernel)
theorem rdX5_readRule_80 : decode cX5_readRule 80 = .ok (.invokevirtual 52, 3) := dqV kk_182 (by decide +kernel)
theorem rdX5_readRule_83 : decode cX5_readRule 83 = .ok (.bipush 59, 2) := dqS kk_16 (by decide +kernel)
theorem rdX5_readRule_85 : decode cX5_readRule 85 = .ok (.if_icmp .eq 5, 3) := dqT kk_159 (by decide +kernel)
theorem rdX5_readRule_90 : decode cX5_readRule 90 = .ok (.aload_n 0, 1) := dq0 kk_42 (by decide +kernel)
theorem rdX5_readRule_91 : decode cX5_readRule 91 = .ok (.invokevirtual 36, 3) := dqV kk_182 (by decide +kernel)
theorem rdX5_readRule_94 : decode cX5_readRule 94 = .ok (.iconst 1, 1) := dq0 kk_4 (by decide +kernel)
theorem rdX5_readRule_95 : decode cX5_readRule 95 = .ok (.ireturn, 1) := dq0 kk_172 (by decide +kernel)
theorem rdX5_readRule_88 : decode cX5_readRule 88 = .ok (.iconst 0, 1) := dq0 kk_3 (by decide +kernel)
theorem rdX5_readRule_89 : decode cX5_readRule 89 = .ok (.ireturn, 1) := dq0 kk_172 (by decide +kernel)
set_option maxRecDepth 4000 in
theorem s_X5_readRule {l : Launch} {D : va_G} {B : Nat} {cy : Nat → ClassId} {M : Mem} {T : Nat → Nat} {tn : Nat} (hT : okT T tn) (hTc : isTc M T tn) {b : Nat} (hR : RS M T tn b) {ru : Nat} (hku : kd ru = (4, 0, 0)) : Ci l D B cy yX5_readRule cX5_readRule 2 (some .boolean) 7 156 [.ref (B + 4), .ref (B + ru)] M (fun r M1 => XQ T tn M ru (rdR T tn b) r M1) := by
  refine s_any (by decide) (Nat.le_of_ble_eq_true rfl) ?_
  intro p e s m below meth c ls F hr hlocks w hl
  have F : CallFix p m c cX5_readRule 2 s _ TB RX5 := F
  have hx := F.1
  have hb := F.2.1
  have hl : lv_has ls 2 [(0, .ref (B + 4)), (1, .ref (B + ru))] := hl
  have hN := hT.1
  have hb9 := hR.1
  have hru := ru_6 hku
  refine lv_aload_n hx hb rdX5_readRule_0 rfl (lv_at hl 1 rfl) ?_
  refine k_Vv F w (As := []) (rest := []) (a := ru) (kd_lt (a := ru) hku (by decide)) (sh_4 hku _ _) rfl (s_X4_clear hku) rgv_X5_62 rhv_X4_clear ⟨(Nat.le_of_ble_eq_true rfl), (Nat.le_of_ble_eq_true rfl)⟩ hl.1 rfl (Nat.le_of_ble_eq_true rfl) ⟨Nat.zero_le _, Nat.zero_le _⟩ rdX5_readRule_1 (fun Ma2 H locs hp w => ?_)
  rcases hp with ⟨hUy1, hFy1, hM4y1⟩
  have hRy1 := RS.fr hR hM4y1
  have hCy1 := isTc.u hTc hFy1 hru
  refine lv_aload_n hx hb rdX5_readRule_4 rfl (lv_at hl 0 rfl) ?_
  refine va_ldcS F.1 F.2.1 F.2.2.2.1 (show vk_R "ToneLines$RuleReader" 65 "again" (D.2 200 1) s from (w.2.2.2.2.1 1 (by decide)).1) rdX5_readRule_5 ?_
  refine k_Vi F w (As := [.ref (D.2 200 1)]) (rest := []) (a := 4) (kd_lt (a := 4) (show kd 4 = (5, 0, 0) from rfl) (by decide)) (sh_5 rfl _ _) rfl (s_X5_readWord hT hCy1 (x := (1, b, P0)) rfl hRy1 (i9 := 1) (show 1 < NSL by decide) (by decide)) rgv_X5_67 rhv_X5_readWord ⟨(Nat.le_of_ble_eq_true rfl), (Nat.le_of_ble_eq_true rfl)⟩ hl.1 rfl (Nat.le_of_ble_eq_true rfl) ⟨Nat.zero_le _, Nat.zero_le _⟩ rdX5_readRule_7 (fun r Ma4 H locs hp w => ?_)
  rcases (show (tk T tn b 0 0 = 0 ∧ r = zI 1 ∧ RS Ma4 T tn (en T tn b) ∧ FrQ Ma4 Ma2) ∨ (tk T tn b 0 0 ≠ 0 ∧ r = zI 0 ∧ Ma4 = Ma2) from hp) with ⟨hty3, rfl, hRy3, hQy3⟩ | ⟨hty3, rfl, hMe⟩
  · have hCy3 := isTc.q hCy1 hQy3
    have hFy3 : FrU Ma4 M ru := FrU.tr hFy1 (FrU.q hQy3)
    have hUy3 := isU.fr hUy1 (hQy3.1 (ru + 1) (by omega))
    refine z_if_eq (tgt := 20) hx hb (by omega) rdX5_readRule_10 (by decide) (fun c5 => False.elim (by omega)) (fun c5 => ?_)
    refine lv_aload_n hx hb rdX5_readRule_13 rfl (lv_at hl 1 rfl) ?_
    refine f_4_0 F w (a := ru) hku rtb_50 rdX5_readRule_14 ?_
    refine lv_iconst (v := zI 1) hx hb rdX5_readRule_17 rfl ?_
    refine lv_iconst (v := zI 1) hx hb rdX5_readRule_18 rfl ?_
    refine g_iast F w (a := (ru + 1)) (kd_r1 hku) (j := 1) ⟨by decide, by decide⟩ (by omega) rdX5_readRule_19 (fun H locs w => ?_)
    have Uq6 : isU (st Ma4 (ru + 1) 1 (zI 1)) ru (updI P0 1 1) := isU.to hUy3
    have Rq6 : RS (st Ma4 (ru + 1) 1 (zI 1)) T tn (en T tn b) := RS.fr hRy3 (st_o (by omega))
    have Cq6 : isTc (st Ma4 (ru + 1) 1 (zI 1)) T tn := isTc.o hCy3 (by omega) (by omega)
    have Fq6 : FrU (st Ma4 (ru + 1) 1 (zI 1)) M ru := FrU.to hFy3 (by omega)
    have eq7 : (rdO T tn 0 1 (1, b, P0)) = (1, (en T tn b), (updI P0 1 1)) := rdO_y rfl hty3
    have gq7 : Prod.fst (rdO T tn 0 1 (1, b, P0)) = 1 := by rw [eq7]
    have Rq7 : RS (st Ma4 (ru + 1) 1 (zI 1)) T tn ((rdO T tn 0 1 (1, b, P0))).2.1 := by rw [eq7]; exact Rq6
    have Uq7 : isU (st Ma4 (ru + 1) 1 (zI 1)) ru ((rdO T tn 0 1 (1, b, P0))).2.2 := by rw [eq7]; exact Uq6
    refine lv_aload_n hx hb rdX5_readRule_20 rfl (lv_at hl 0 rfl) ?_
    refine lv_aload_n hx hb rdX5_readRule_21 rfl (lv_at hl 1 rfl) ?_
    refine lv_iconst (v := zI 0) hx hb rdX5_readRule_22 rfl ?_
    refine va_ldcS F.1 F.2.1 F.2.2.2.1 (show vk_R "ToneLines$RuleReader" 75 "link spread shift cut dock drop fuse turn flat fill" (D.2 200 2) s from (w.2.2.2.2.1 2 (by decide)).1) rdX5_readRule_23 ?_
    refine k_Vi F w (As := [.ref (B + ru), .int (zI 0), .ref (D.2 200 2)]) (rest := []) (a := 4) (kd_lt (a := 4) (show kd 4 = (5, 0, 0) from rfl) (by decide)) (sh_5 rfl _ _) rfl (s_X5_readChoice hT Cq6 (x := (rdO T tn 0 1 (1, b, P0))) gq7 Rq7 hku Uq7 (k := 0) (by decide) (i9 := 2) (show 2 < NSL by decide) (by decide)) rgv_X5_77 rhv_X5_readChoice ⟨(Nat.le_of_ble_eq_true rfl), (Nat.le_of_ble_eq_true rfl)⟩ hl.1 rfl (Nat.le_of_ble_eq_true rfl) ⟨Nat.zero_le _, Nat.zero_le _⟩ rdX5_readRule_25 (fun r Ma9 H locs hp w => ?_)
    obtain ⟨hGy8, hry8, hRy8, hUy8, hFy8⟩ : XQ T tn (st Ma4 (ru + 1) 1 (zI 1)) ru (rdC T tn 1 10 0 (rdO T tn 0 1 (1, b, P0))) r Ma9 := hp
    have hCy8 := isTc.u Cq6 hFy8 (ru_6 hku)
    have hFy8 : FrU Ma9 M ru := FrU.tr Fq6 hFy8
    rcases hGy8.1 with gy8 | gy8
    · refine r_val (v := zI 0) (hry8.trans (by rw [gy8]; rfl)) ?_
      refine z_if_eq (tgt := 39) hx hb (by omega) rdX5_readRule_28 (by decide) (fun c10 => ?_) (fun c10 => False.elim (by omega))
      refine lv_iconst (v := zI 0) hx hb rdX5_readRule_39 rfl ?_
      exact e_z F w hr hlocks (nar_z (by omega)) (XQ.of (rdR_0 gy8) hGy8 hRy8 hUy8 hFy8 (congrArg (fun q9 : Nat => (q9 : Int)) gy8)) rdX5_readRule_40
    · refine r_val (v := zI 1) (hry8.trans (by rw [gy8]; rfl)) ?_
      refine z_if_eq (tgt := 39) hx hb (by omega) rdX5_readRule_28 (by decide) (fun c11 => False.elim (by omega)) (fun c11 => ?_)
      have gV : Prod.fst (rdV T tn b) = 1 := gy8
      have Rq12 : RS Ma9 T tn (rdV T tn b).2.1 := hRy8
      have Uq12 : isU Ma9 ru (rdV T tn b).2.2 := hUy8
      refine lv_aload_n hx hb rdX5_readRule_31 rfl (lv_at hl 0 rfl) ?_
      refine lv_aload_n hx hb rdX5_readRule_32 rfl (lv_at hl 1 rfl) ?_
      refine k_Vi F w (As := [.ref (B + ru)]) (rest := []) (a := 4) (kd_lt (a := 4) (show kd 4 = (5, 0, 0) from rfl) (by decide)) (sh_5 rfl _ _) rfl (s_X5_readParts hT hCy8 (x := (rdV T tn b)) gV Rq12 hku Uq12 (rdV_v gV)) rgv_X5_81 rhv_X5_readParts ⟨(Nat.le_of_ble_eq_true rfl), (Nat.le_of_ble_eq_true rfl)⟩ hl.1 rfl (Nat.le_of_ble_eq_true rfl) ⟨Nat.zero_le _, Nat.zero_le _⟩ rdX5_readRule_33 (fun r Ma14 H locs hp w => ?_)
      obtain ⟨hGy13, hry13, hRy13, hUy13, hFy13⟩ : XQ T tn Ma9 ru (rdP T tn (Prod.snd (Prod.snd (rdV T tn b)) 0) (rdV T tn b)) r Ma14 := hp
      have hCy13 := isTc.u hCy8 hFy13 (ru_6 hku)
      have hFy13 : FrU Ma14 M ru := FrU.tr hFy8 hFy13
      rcases hGy13.1 with gy13 | gy13
      · refine r_val (v := zI 0) (hry13.trans (by rw [gy13]; rfl)) ?_
        refine z_if_ne (tgt := 41) hx hb (by omega) rdX5_readRule_36 (by decide) (fun c15 => False.elim (by omega)) (fun c15 => ?_)
        refine lv_iconst (v := zI 0) hx hb rdX5_readRule_39 rfl ?_
        exact e_z F w hr hlocks (nar_z (by omega)) (XQ.of (rdR_1 gV gy13) hGy13 hRy13 hUy13 hFy13 (congrArg (fun q9 : Nat => (q9 : Int)) gy13)) rdX5_readRule_40
      · refine r_val (v := zI 1) (hry13.trans (by rw [gy13]; rfl)) ?_
        refine z_if_ne (tgt := 41) hx hb (by omega) rdX5_readRule_36 (by decide) (fun c16 => ?_) (fun c16 => False.elim (by omega))
        have hv9 := rdV_v gV
        have hv8 : (rdP T tn (Prod.snd (Prod.snd (rdV T tn b)) 0) (rdV T tn b)).2.2 0 = (rdV T tn b).2.2 0 := rdP_p (by decide)
        refine lv_aload_n hx hb rdX5_readRule_41 rfl (lv_at hl 1 rfl) ?_
        refine f_4_0 F w (a := ru) hku rtb_50 rdX5_readRule_42 ?_
        refine lv_iconst (v := zI 0) hx hb rdX5_readRule_45 rfl ?_
        refine g_iald F w (a := (ru + 1)) (kd_r1 hku) (j := 0) ⟨by decide, by decide⟩ (by omega) rdX5_readRule_46 ?_
        refine r_val (v := (zI (((rdP T tn (Prod.snd (Prod.snd (rdV T tn b)) 0) (rdV T tn b))).2.2 0))) (hUy13 0 (by decide)) ?_
        refine k_Si F w (As := [.int (zI (((rdP T tn (Prod.snd (Prod.snd (rdV T tn b)) 0) (rdV T tn b))).2.2 0))]) (rest := []) (s_X5_mayHaveIf (z := (((rdP T tn (Prod.snd (Prod.snd (rdV T tn b)) 0) (rdV T tn b))).2.2 0)) (by omega)) rgs_X5_84 rhs_X5_mayHaveIf ⟨(Nat.le_of_ble_eq_true rfl), (Nat.le_of_ble_eq_true rfl)⟩ hl.1 rfl (Nat.le_of_ble_eq_true rfl) ⟨Nat.zero_le _, Nat.zero_le _⟩ rdX5_readRule_47 (fun r Ma19 H locs hp w => ?_)
        rcases hp with ⟨⟨hb18, rfl⟩ | ⟨hb18, rfl⟩, hMe⟩
        · rw [hMe] at w
          refine z_if_eq (tgt := 72) hx hb (by omega) rdX5_readRule_50 (by decide) (fun c20 => False.elim (by omega)) (fun c20 => ?_)
          refine lv_aload_n hx hb rdX5_readRule_53 rfl (lv_at hl 0 rfl) ?_
          refine va_ldcS F.1 F.2.1 F.2.2.2.1 (show vk_R "ToneLines$RuleReader" 87 "if" (D.2 200 8) s from (w.2.2.2.2.1 8 (by decide)).1) rdX5_readRule_54 ?_
          refine k_Vi F w (As := [.ref (D.2 200 8)]) (rest := []) (a := 4) (kd_lt (a := 4) (show kd 4 = (5, 0, 0) from rfl) (by decide)) (sh_5 rfl _ _) rfl (s_X5_readWord hT hCy13 (x := (rdP T tn (Prod.snd (Prod.snd (rdV T tn b)) 0) (rdV T tn b))) gy13 hRy13 (i9 := 8) (show 8 < NSL by decide) (by decide)) rgv_X5_67 rhv_X5_readWord ⟨(Nat.le_of_ble_eq_true rfl), (Nat.le_of_ble_eq_true rfl)⟩ hl.1 rfl (Nat.le_of_ble_eq_true rfl) ⟨Nat.zero_le _, Nat.zero_le _⟩ rdX5_readRule_56 (fun r Ma22 H locs hp w => ?_)
          rcases (show (tk T tn ((rdP T tn (Prod.snd (Prod.snd (rdV T tn b)) 0) (rdV T tn b))).2.1 20 20 = 0 ∧ r = zI 1 ∧ RS Ma22 T tn (en T tn ((rdP T tn (Prod.snd (Prod.snd (rdV T tn b)) 0) (rdV T tn b))).2.1) ∧ FrQ Ma22 Ma14) ∨ (tk T tn ((rdP T tn (Prod.snd (Prod.snd (rdV T tn b)) 0) (rdV T tn b))).2.1 20 20 ≠ 0 ∧ r = zI 0 ∧ Ma22 = Ma14) from hp) with ⟨hty21, rfl, hRy21, hQy21⟩ | ⟨hty21, rfl, hMe⟩
          · have hCy21 := isTc.q hCy13 hQy21
            have hFy21 : FrU Ma22 M ru := FrU.tr hFy13 (FrU.q hQy21)
            have hUy21 := isU.fr hUy13 (hQy21.1 (ru + 1) (by omega))
            refine z_if_eq (tgt := 72) hx hb (by omega) rdX5_readRule_59 (by decide) (fun c23 => False.elim (by omega)) (fun c23 => ?_)
            refine lv_aload_n hx hb rdX5_readRule_62 rfl (lv_at hl 0 rfl) ?_
            refine lv_aload_n hx hb rdX5_readRule_63 rfl (lv_at hl 1 rfl) ?_
            refine k_Vi F w (As := [.ref (B + ru)]) (rest := []) (a := 4) (kd_lt (a := 4) (show kd 4 = (5, 0, 0) from rfl) (by decide)) (sh_5 rfl _ _) rfl (s_X5_readTest hT hCy21 (x := (1, (en T tn ((rdP T tn (Prod.snd (Prod.snd (rdV T tn b)) 0) (rdV T tn b))).2.1), ((rdP T tn (Prod.snd (Prod.snd (rdV T tn b)) 0) (rdV T tn b))).2.2)) rfl hRy21 hku hUy21 (okX_P (okX_V T tn b))) rgv_X5_89 rhv_X5_readTest ⟨(Nat.le_of_ble_eq_true rfl), (Nat.le_of_ble_eq_true rfl)⟩ hl.1 rfl (Nat.le_of_ble_eq_true rfl) ⟨Nat.zero_le _, Nat.zero_le _⟩ rdX5_readRule_64 (fun r Ma25 H locs hp w => ?_)
            obtain ⟨hGy24, hry24, hRy24, hUy24, hFy24⟩ : XQ T tn Ma22 ru (rdT T tn (1, (en T tn ((rdP T tn (Prod.snd (Prod.snd (rdV T tn b)) 0) (rdV T tn b))).2.1), ((rdP T tn (Prod.snd (Prod.snd (rdV T tn b)) 0) (rdV T tn b))).2.2)) r Ma25 := hp
            have hCy24 := isTc.u hCy21 hFy24 (ru_6 hku)
            have hFy24 : FrU Ma25 M ru := FrU.tr hFy21 hFy24
            rcases hGy24.1 with gy24 | gy24
            · refine r_val (v := zI 0) (hry24.trans (by rw [gy24]; rfl)) ?_
              refine z_if_ne (tgt := 72) hx hb (by omega) rdX5_readRule_67 (by decide) (fun c26 => False.elim (by omega)) (fun c26 => ?_)
              refine lv_iconst (v := zI 0) hx hb rdX5_readRule_70 rfl ?_
              exact e_z F w hr hlocks (nar_z (by omega)) (XQ.of (rdR_2 gV (rdI_y gy13 (by omega) hty21) gy24) hGy24 hRy24 hUy24 hFy24 (congrArg (fun q9 : Nat => (q9 : Int)) gy24)) rdX5_readRule_71
            · refine r_val (v := zI 1) (hry24.trans (by rw [gy24]; rfl)) ?_
              refine z_if_ne (tgt := 72) hx hb (by omega) rdX5_readRule_67 (by decide) (fun c27 => ?_) (fun c27 => False.elim (by omega))
              have eI : rdI T tn ((rdV T tn b).2.2 0) (rdP T tn (Prod.snd (Prod.snd (rdV T tn b)) 0) (rdV T tn b)) = (rdT T tn (1, (en T tn ((rdP T tn (Prod.snd (Prod.snd (rdV T tn b)) 0) (rdV T tn b))).2.1), ((rdP T tn (Prod.snd (Prod.snd (rdV T tn b)) 0) (rdV T tn b))).2.2)) := (rdI_y gy13 (by omega) hty21)
              have hbb := hRy24.1
              have hskk := sk_le (T := T) hbb
              refine lv_aload_n hx hb rdX5_readRule_72 rfl (lv_at hl 0 rfl) ?_
              refine f_5_0 F w (a := 4) rfl rtb_22 rdX5_readRule_73 ?_
              refine lv_aload_n hx hb rdX5_readRule_76 rfl (lv_at hl 0 rfl) ?_
              refine f_5_3 F w (a := 4) rfl rtb_33 rdX5_readRule_77 ?_
              refine r_val (v := (zI (((sk T tn ((rdT T tn (1, (en T tn ((rdP T tn (Prod.snd (Prod.snd (rdV T tn b)) 0) (rdV T tn b))).2.1), ((rdP T tn (Prod.snd (Prod.snd (rdV T tn b)) 0) (rdV T tn b))).2.2))).2.1) : Nat) : Int))) (hRy24.2.1) ?_
              refine x_Vi F w (As := [.int (zI (((sk T tn ((rdT T tn (1, (en T tn ((rdP T tn (Prod.snd (Prod.snd (rdV T tn b)) 0) (rdV T tn b))).2.1), ((rdP T tn (Prod.snd (Prod.snd (rdV T tn b)) 0) (rdV T tn b))).2.2))).2.1) : Nat) : Int))]) (rest := []) (a := 1) (kd_lt (a := 1) (show kd 1 = (8, 0, 0) from rfl) (by decide)) (sh_8 rfl _ _) rfl (s_X8_signAt hT hCy24 (z := (((sk T tn ((rdT T tn (1, (en T tn ((rdP T tn (Prod.snd (Prod.snd (rdV T tn b)) 0) (rdV T tn b))).2.1), ((rdP T tn (Prod.snd (Prod.snd (rdV T tn b)) 0) (rdV T tn b))).2.2))).2.1) : Nat) : Int)) (by omega)) rgv_X5_52 rhv_X8_signAt ⟨(Nat.le_of_ble_eq_true rfl), (Nat.le_of_ble_eq_true rfl)⟩ hl.1 rfl (Nat.le_of_ble_eq_true rfl) ⟨Nat.zero_le _, Nat.zero_le _⟩ rdX5_readRule_80 (fun H locs w => ?_)
              have hg28 := sg_rg hT (((sk T tn ((rdT T tn (1, (en T tn ((rdP T tn (Prod.snd (Prod.snd (rdV T tn b)) 0) (rdV T tn b))).2.1), ((rdP T tn (Prod.snd (Prod.snd (rdV T tn b)) 0) (rdV T tn b))).2.2))).2.1) : Nat) : Int)
              have hh28 := sg_c (T := T) (N := tn) (sk T tn ((rdT T tn (1, (en T tn ((rdP T tn (Prod.snd (Prod.snd (rdV T tn b)) 0) (rdV T tn b))).2.1), ((rdP T tn (Prod.snd (Prod.snd (rdV T tn b)) 0) (rdV T tn b))).2.2))).2.1)
              refine lv_bipush (v := zI 59) hx hb rdX5_readRule_83 (by decide) ?_
              refine z_icmp_eq (tgt := 90) hx hb (by omega) (by omega) rdX5_readRule_85 (by decide) (fun c30 => ?_) (fun c30 => ?_)
              · refine lv_aload_n hx hb rdX5_readRule_90 rfl (lv_at hl 0 rfl) ?_
                refine k_Vv F w (As := []) (rest := []) (a := 4) (kd_lt (a := 4) (show kd 4 = (5, 0, 0) from rfl) (by decide)) (sh_5 rfl _ _) rfl (s_X5_step hT hCy24 (E := en T tn ((rdT T tn (1, (en T tn ((rdP T tn (Prod.snd (Prod.snd (rdV T tn b)) 0) (rdV T tn b))).2.1), ((rdP T tn (Prod.snd (Prod.snd (rdV T tn b)) 0) (rdV T tn b))).2.2))).2.1) (en_le hRy24.1).2.1 hRy24.2.2.1) rgv_X5_36 rhv_X5_step ⟨(Nat.le_of_ble_eq_true rfl), (Nat.le_of_ble_eq_true rfl)⟩ hl.1 rfl (Nat.le_of_ble_eq_true rfl) ⟨Nat.zero_le _, Nat.zero_le _⟩ rdX5_readRule_91 (fun Ma32 H locs hp w => ?_)
                obtain ⟨hRy31, hQy31⟩ := hp
                have hCy31 := isTc.q hCy24 hQy31
                have hFy31 : FrU Ma32 M ru := FrU.tr hFy24 (FrU.q hQy31)
                have hUy31 := isU.fr hUy24 (hQy31.1 (ru + 1) (by omega))
                refine lv_iconst (v := zI 1) hx hb rdX5_readRule_94 rfl ?_
                exact e_z F w hr hlocks (nar_z (by omega)) (XQ.mk1 (rdR_I gV eI (rdS_y gy24 (by omega) (by omega))) hRy31 hUy31 hFy31) rdX5_readRule_95
              · refine lv_iconst (v := zI 0) hx hb rdX5_readRule_88 rfl ?_
                exact e_z F w hr hlocks (nar_z (by omega)) (XQ.mk0 (rdR_I gV eI (rdS_n gy24 (by omega))) hRy24 hUy24 hFy24) rdX5_readRule_89
          · rw [hMe] at w
            refine z_if_eq (tgt := 72) hx hb (by omega) rdX5_readRule_59 (by decide) (fun c33 => ?_) (fun c33 => False.elim (by omega))
            have eI : rdI T tn ((rdV T tn b).2.2 0) (rdP T tn (Prod.snd (Prod.snd (rdV T tn b)) 0) (rdV T tn b)) = (rdP T tn (Prod.snd (Prod.snd (rdV T tn b)) 0) (rdV T tn b)) := (rdI_n (Or.inr (Or.inr hty21)))
            have hbb := hRy13.1
            have hskk := sk_le (T := T) hbb
            refine lv_aload_n hx hb rdX5_readRule_72 rfl (lv_at hl 0 rfl) ?_
            refine f_5_0 F w (a := 4) rfl rtb_22 rdX5_readRule_73 ?_
            refine lv_aload_n hx hb rdX5_readRule_76 rfl (lv_at hl 0 rfl) ?_
            refine f_5_3 F w (a := 4) rfl rtb_33 rdX5_readRule_77 ?_
            refine r_val (v := (zI (((sk T tn ((rdP T tn (Prod.snd (Prod.snd (rdV T tn b)) 0) (rdV T tn b))).2.1) : Nat) : Int))) (hRy13.2.1) ?_
            refine x_Vi F w (As := [.int (zI (((sk T tn ((rdP T tn (Prod.snd (Prod.snd (rdV T tn b)) 0) (rdV T tn b))).2.1) : Nat) : Int))]) (rest := []) (a := 1) (kd_lt (a := 1) (show kd 1 = (8, 0, 0) from rfl) (by decide)) (sh_8 rfl _ _) rfl (s_X8_signAt hT hCy13 (z := (((sk T tn ((rdP T tn (Prod.snd (Prod.snd (rdV T tn b)) 0) (rdV T tn b))).2.1) : Nat) : Int)) (by omega)) rgv_X5_52 rhv_X8_signAt ⟨(Nat.le_of_ble_eq_true rfl), (Nat.le_of_ble_eq_true rfl)⟩ hl.1 rfl (Nat.le_of_ble_eq_true rfl) ⟨Nat.zero_le _, Nat.zero_le _⟩ rdX5_readRule_80 (fun H locs w => ?_)
            have hg34 := sg_rg hT (((sk T tn ((rdP T tn (Prod.snd (Prod.snd (rdV T tn b)) 0) (rdV T tn b))).2.1) : Nat) : Int)
            have hh34 := sg_c (T := T) (N := tn) (sk T tn ((rdP T tn (Prod.snd (Prod.snd (rdV T tn b)) 0) (rdV T tn b))).2.1)
            refine lv_bipush (v := zI 59) hx hb rdX5_readRule_83 (by decide) ?_
            refine z_icmp_eq (tgt := 90) hx hb (by omega) (by omega) rdX5_readRule_85 (by decide) (fun c36 => ?_) (fun c36 => ?_)
            · refine lv_aload_n hx hb rdX5_readRule_90 rfl (lv_at hl 0 rfl) ?_
              refine k_Vv F w (As := []) (rest := []) (a := 4) (kd_lt (a := 4) (show kd 4 = (5, 0, 0) from rfl) (by decide)) (sh_5 rfl _ _) rfl (s_X5_step hT hCy13 (E := en T tn ((rdP T tn (Prod.snd (Prod.snd (rdV T tn b)) 0) (rdV T tn b))).2.1) (en_le hRy13.1).2.1 hRy13.2.2.1) rgv_X5_36 rhv_X5_step ⟨(Nat.le_of_ble_eq_true rfl), (Nat.le_of_ble_eq_true rfl)⟩ hl.1 rfl (Nat.le_of_ble_eq_true rfl) ⟨Nat.zero_le _, Nat.zero_le _⟩ rdX5_readRule_91 (fun Ma38 H locs hp w => ?_)
              obtain ⟨hRy37, hQy37⟩ := hp
              have hCy37 := isTc.q hCy13 hQy37
              have hFy37 : FrU Ma38 M ru := FrU.tr hFy13 (FrU.q hQy37)
              have hUy37 := isU.fr hUy13 (hQy37.1 (ru + 1) (by omega))
              refine lv_iconst (v := zI 1) hx hb rdX5_readRule_94 rfl ?_
              exact e_z F w hr hlocks (nar_z (by omega)) (XQ.mk1 (rdR_I gV eI (rdS_y gy13 (by omega) (by omega))) hRy37 hUy37 hFy37) rdX5_readRule_95
            · refine lv_iconst (v := zI 0) hx hb rdX5_readRule_88 rfl ?_
              exact e_z F w hr hlocks (nar_z (by omega)) (XQ.mk0 (rdR_I gV eI (rdS_n gy13 (by omega))) hRy13 hUy13 hFy13) rdX5_readRule_89
        · rw [hMe] at w
          refine z_if_eq (tgt := 72) hx hb (by omega) rdX5_readRule_50 (by decide) (fun c39 => ?_) (fun c39 => False.elim (by omega))
          have eI : rdI T tn ((rdV T tn b).2.2 0) (rdP T tn (Prod.snd (Prod.snd (rdV T tn b)) 0) (rdV T tn b)) = (rdP T tn (Prod.snd (Prod.snd (rdV T tn b)) 0) (rdV T tn b)) := (rdI_n (Or.inr (Or.inl (by omega))))
          have hbb := hRy13.1
          have hskk := sk_le (T := T) hbb
          refine lv_aload_n hx hb rdX5_readRule_72 rfl (lv_at hl 0 rfl) ?_
          refine f_5_0 F w (a := 4) rfl rtb_22 rdX5_readRule_73 ?_
          refine lv_aload_n hx hb rdX5_readRule_76 rfl (lv_at hl 0 rfl) ?_
          refine f_5_3 F w (a := 4) rfl rtb_33 rdX5_readRule_77 ?_
          refine r_val (v := (zI (((sk T tn ((rdP T tn (Prod.snd (Prod.snd (rdV T tn b)) 0) (rdV T tn b))).2.1) : Nat) : Int))) (hRy13.2.1) ?_
          refine x_Vi F w (As := [.int (zI (((sk T tn ((rdP T tn (Prod.snd (Prod.snd (rdV T tn b)) 0) (rdV T tn b))).2.1) : Nat) : Int))]) (rest := []) (a := 1) (kd_lt (a := 1) (show kd 1 = (8, 0, 0) from rfl) (by decide)) (sh_8 rfl _ _) rfl (s_X8_signAt hT hCy13 (z := (((sk T tn ((rdP T tn (Prod.snd (Prod.snd (rdV T tn b)) 0) (rdV T tn b))).2.1) : Nat) : Int)) (by omega)) rgv_X5_52 rhv_X8_signAt ⟨(Nat.le_of_ble_eq_true rfl), (Nat.le_of_ble_eq_true rfl)⟩ hl.1 rfl (Nat.le_of_ble_eq_true rfl) ⟨Nat.zero_le _, Nat.zero_le _⟩ rdX5_readRule_80 (fun H locs w => ?_)
          have hg40 := sg_rg hT (((sk T tn ((rdP T tn (Prod.snd (Prod.snd (rdV T tn b)) 0) (rdV T tn b))).2.1) : Nat) : Int)
          have hh40 := sg_c (T := T) (N := tn) (sk T tn ((rdP T tn (Prod.snd (Prod.snd (rdV T tn b)) 0) (rdV T tn b))).2.1)
          refine lv_bipush (v := zI 59) hx hb rdX5_readRule_83 (by decide) ?_
          refine z_icmp_eq (tgt := 90) hx hb (by omega) (by omega) rdX5_readRule_85 (by decide) (fun c42 => ?_) (fun c42 => ?_)
          · refine lv_aload_n hx hb rdX5_readRule_90 rfl (lv_at hl 0 rfl) ?_
            refine k_Vv F w (As := []) (rest := []) (a := 4) (kd_lt (a := 4) (show kd 4 = (5, 0, 0) from rfl) (by decide)) (sh_5 rfl _ _) rfl (s_X5_step hT hCy13 (E := en T tn ((rdP T tn (Prod.snd (Prod.snd (rdV T tn b)) 0) (rdV T tn b))).2.1) (en_le hRy13.1).2.1 hRy13.2.2.1) rgv_X5_36 rhv_X5_step ⟨(Nat.le_of_ble_eq_true rfl), (Nat.le_of_ble_eq_true rfl)⟩ hl.1 rfl (Nat.le_of_ble_eq_true rfl) ⟨Nat.zero_le _, Nat.zero_le _⟩ rdX5_readRule_91 (fun Ma44 H locs hp w => ?_)
            obtain ⟨hRy43, hQy43⟩ := hp
            have hCy43 := isTc.q hCy13 hQy43
            have hFy43 : FrU Ma44 M ru := FrU.tr hFy13 (FrU.q hQy43)
            have hUy43 := isU.fr hUy13 (hQy43.1 (ru + 1) (by omega))
            refine lv_iconst (v := zI 1) hx hb rdX5_readRule_94 rfl ?_
            exact e_z F w hr hlocks (nar_z (by omega)) (XQ.mk1 (rdR_I gV eI (rdS_y gy13 (by omega) (by omega))) hRy43 hUy43 hFy43) rdX5_readRule_95
          · refine lv_iconst (v := zI 0) hx hb rdX5_readRule_88 rfl ?_
            exact e_z F w hr hlocks (nar_z (by omega)) (XQ.mk0 (rdR_I gV eI (rdS_n gy13 (by omega))) hRy13 hUy13 hFy13) rdX5_readRule_89
  · rw [hMe] at w
    refine z_if_eq (tgt := 20) hx hb (by omega) rdX5_readRule_10 (by decide) (fun c45 => ?_) (fun c45 => False.elim (by omega))
    have eq46 : (rdO T tn 0 1 (1, b, P0)) = (1, b, P0) := rdO_n hty3
    have gq46 : Prod.fst (rdO T tn 0 1 (1, b, P0)) = 1 := by rw [eq46]
    have Rq46 : RS Ma2 T tn ((rdO T tn 0 1 (1, b, P0))).2.1 := by rw [eq46]; exact hRy1
    have Uq46 : isU Ma2 ru ((rdO T tn 0 1 (1, b, P0))).2.2 := by rw [eq46]; exact hUy1
    refine lv_aload_n hx hb rdX5_readRule_20 rfl (lv_at hl 0 rfl) ?_
    refine lv_aload_n hx hb rdX5_readRule_21 rfl (lv_at hl 1 rfl) ?_
    refine lv_iconst (v := zI 0) hx hb rdX5_readRule_22 rfl ?_
    refine va_ldcS F.1 F.2.1 F.2.2.2.1 (show vk_R "ToneLines$RuleReader" 75 "link spread shift cut dock drop fuse turn flat fill" (D.2 200 2) s from (w.2.2.2.2.1 2 (by decide)).1) rdX5_readRule_23 ?_
    refine k_Vi F w (As := [.ref (B + ru), .int (zI 0), .ref (D.2 200 2)]) (rest := []) (a := 4) (kd_lt (a := 4) (show kd 4 = (5, 0, 0) from rfl) (by decide)) (sh_5 rfl _ _) rfl (s_X5_readChoice hT hCy1 (x := (rdO T tn 0 1 (1, b, P0))) gq46 Rq46 hku Uq46 (k := 0) (by decide) (i9 := 2) (show 2 < NSL by decide) (by decide)) rgv_X5_77 rhv_X5_readChoice ⟨(Nat.le_of_ble_eq_true rfl), (Nat.le_of_ble_eq_true rfl)⟩ hl.1 rfl (Nat.le_of_ble_eq_true rfl) ⟨Nat.zero_le _, Nat.zero_le _⟩ rdX5_readRule_25 (fun r Ma48 H locs hp w => ?_)
    obtain ⟨hGy47, hry47, hRy47, hUy47, hFy47⟩ : XQ T tn Ma2 ru (rdC T tn 1 10 0 (rdO T tn 0 1 (1, b, P0))) r Ma48 := hp
    have hCy47 := isTc.u hCy1 hFy47 (ru_6 hku)
    have hFy47 : FrU Ma48 M ru := FrU.tr hFy1 hFy47
    rcases hGy47.1 with gy47 | gy47
    · refine r_val (v := zI 0) (hry47.trans (by rw [gy47]; rfl)) ?_
      refine z_if_eq (tgt := 39) hx hb (by omega) rdX5_readRule_28 (by decide) (fun c49 => ?_) (fun c49 => False.elim (by omega))
      refine lv_iconst (v := zI 0) hx hb rdX5_readRule_39 rfl ?_
      exact e_z F w hr hlocks (nar_z (by omega)) (XQ.of (rdR_0 gy47) hGy47 hRy47 hUy47 hFy47 (congrArg (fun q9 : Nat => (q9 : Int)) gy47)) rdX5_readRule_40
    · refine r_val (v := zI 1) (hry47.trans (by rw [gy47]; rfl)) ?_
      refine z_if_eq (tgt := 39) hx hb (by omega) rdX5_readRule_28 (by decide) (fun c50 => False.elim (by omega)) (fun c50 => ?_)
      have gV : Prod.fst (rdV T tn b) = 1 := gy47
      have Rq51 : RS Ma48 T tn (rdV T tn b).2.1 := hRy47
      have Uq51 : isU Ma48 ru (rdV T tn b).2.2 := hUy47
      refine lv_aload_n hx hb rdX5_readRule_31 rfl (lv_at hl 0 rfl) ?_
      refine lv_aload_n hx hb rdX5_readRule_32 rfl (lv_at hl 1 rfl) ?_
      refine k_Vi F w (As := [.ref (B + ru)]) (rest := []) (a := 4) (kd_lt (a := 4) (show kd 4 = (5, 0, 0) from rfl) (by decide)) (sh_5 rfl _ _) rfl (s_X5_readParts hT hCy47 (x := (rdV T tn b)) gV Rq51 hku Uq51 (rdV_v gV)) rgv_X5_81 rhv_X5_readParts ⟨(Nat.le_of_ble_eq_true rfl), (Nat.le_of_ble_eq_true rfl)⟩ hl.1 rfl (Nat.le_of_ble_eq_true rfl) ⟨Nat.zero_le _, Nat.zero_le _⟩ rdX5_readRule_33 (fun r Ma53 H locs hp w => ?_)
      obtain ⟨hGy52, hry52, hRy52, hUy52, hFy52⟩ : XQ T tn Ma48 ru (rdP T tn (Prod.snd (Prod.snd (rdV T tn b)) 0) (rdV T tn b)) r Ma53 := hp
      have hCy52 := isTc.u hCy47 hFy52 (ru_6 hku)
      have hFy52 : FrU Ma53 M ru := FrU.tr hFy47 hFy52
      rcases hGy52.1 with gy52 | gy52
      · refine r_val (v := zI 0) (hry52.trans (by rw [gy52]; rfl)) ?_
        refine z_if_ne (tgt := 41) hx hb (by omega) rdX5_readRule_36 (by decide) (fun c54 => False.elim (by omega)) (fun c54 => ?_)
        refine lv_iconst (v := zI 0) hx hb rdX5_readRule_39 rfl ?_
        exact e_z F w hr hlocks (nar_z (by omega)) (XQ.of (rdR_1 gV gy52) hGy52 hRy52 hUy52 hFy52 (congrArg (fun q9 : Nat => (q9 : Int)) gy52)) rdX5_readRule_40
      · refine r_val (v := zI 1) (hry52.trans (by rw [gy52]; rfl)) ?_
        refine z_if_ne (tgt := 41) hx hb (by omega) rdX5_readRule_36 (by decide) (fun c55 => ?_) (fun c55 => False.elim (by omega))
        have hv9 := rdV_v gV
        have hv8 : (rdP T tn (Prod.snd (Prod.snd (rdV T tn b)) 0) (rdV T tn b)).2.2 0 = (rdV T tn b).2.2 0 := rdP_p (by decide)
        refine lv_aload_n hx hb rdX5_readRule_41 rfl (lv_at hl 1 rfl) ?_
        refine f_4_0 F w (a := ru) hku rtb_50 rdX5_readRule_42 ?_
        refine lv_iconst (v := zI 0) hx hb rdX5_readRule_45 rfl ?_
        refine g_iald F w (a := (ru + 1)) (kd_r1 hku) (j := 0) ⟨by decide, by decide⟩ (by omega) rdX5_readRule_46 ?_
        refine r_val (v := (zI (((rdP T tn (Prod.snd (Prod.snd (rdV T tn b)) 0) (rdV T tn b))).2.2 0))) (hUy52 0 (by decide)) ?_
        refine k_Si F w (As := [.int (zI (((rdP T tn (Prod.snd (Prod.snd (rdV T tn b)) 0) (rdV T tn b))).2.2 0))]) (rest := []) (s_X5_mayHaveIf (z := (((rdP T tn (Prod.snd (Prod.snd (rdV T tn b)) 0) (rdV T tn b))).2.2 0)) (by omega)) rgs_X5_84 rhs_X5_mayHaveIf ⟨(Nat.le_of_ble_eq_true rfl), (Nat.le_of_ble_eq_true rfl)⟩ hl.1 rfl (Nat.le_of_ble_eq_true rfl) ⟨Nat.zero_le _, Nat.zero_le _⟩ rdX5_readRule_47 (fun r Ma58 H locs hp w => ?_)
        rcases hp with ⟨⟨hb57, rfl⟩ | ⟨hb57, rfl⟩, hMe⟩
        · rw [hMe] at w
          refine z_if_eq (tgt := 72) hx hb (by omega) rdX5_readRule_50 (by decide) (fun c59 => False.elim (by omega)) (fun c59 => ?_)
          refine lv_aload_n hx hb rdX5_readRule_53 rfl (lv_at hl 0 rfl) ?_
          refine va_ldcS F.1 F.2.1 F.2.2.2.1 (show vk_R "ToneLines$RuleReader" 87 "if" (D.2 200 8) s from (w.2.2.2.2.1 8 (by decide)).1) rdX5_readRule_54 ?_
          refine k_Vi F w (As := [.ref (D.2 200 8)]) (rest := []) (a := 4) (kd_lt (a := 4) (show kd 4 = (5, 0, 0) from rfl) (by decide)) (sh_5 rfl _ _) rfl (s_X5_readWord hT hCy52 (x := (rdP T tn (Prod.snd (Prod.snd (rdV T tn b)) 0) (rdV T tn b))) gy52 hRy52 (i9 := 8) (show 8 < NSL by decide) (by decide)) rgv_X5_67 rhv_X5_readWord ⟨(Nat.le_of_ble_eq_true rfl), (Nat.le_of_ble_eq_true rfl)⟩ hl.1 rfl (Nat.le_of_ble_eq_true rfl) ⟨Nat.zero_le _, Nat.zero_le _⟩ rdX5_readRule_56 (fun r Ma61 H locs hp w => ?_)
          rcases (show (tk T tn ((rdP T tn (Prod.snd (Prod.snd (rdV T tn b)) 0) (rdV T tn b))).2.1 20 20 = 0 ∧ r = zI 1 ∧ RS Ma61 T tn (en T tn ((rdP T tn (Prod.snd (Prod.snd (rdV T tn b)) 0) (rdV T tn b))).2.1) ∧ FrQ Ma61 Ma53) ∨ (tk T tn ((rdP T tn (Prod.snd (Prod.snd (rdV T tn b)) 0) (rdV T tn b))).2.1 20 20 ≠ 0 ∧ r = zI 0 ∧ Ma61 = Ma53) from hp) with ⟨hty60, rfl, hRy60, hQy60⟩ | ⟨hty60, rfl, hMe⟩
          · have hCy60 := isTc.q hCy52 hQy60
            have hFy60 : FrU Ma61 M ru := FrU.tr hFy52 (FrU.q hQy60)
            have hUy60 := isU.fr hUy52 (hQy60.1 (ru + 1) (by omega))
            refine z_if_eq (tgt := 72) hx hb (by omega) rdX5_readRule_59 (by decide) (fun c62 => False.elim (by omega)) (fun c62 => ?_)
            refine lv_aload_n hx hb rdX5_readRule_62 rfl (lv_at hl 0 rfl) ?_
            refine lv_aload_n hx hb rdX5_readRule_63 rfl (lv_at hl 1 rfl) ?_
            refine k_Vi F w (As := [.ref (B + ru)]) (rest := []) (a := 4) (kd_lt (a := 4) (show kd 4 = (5, 0, 0) from rfl) (by decide)) (sh_5 rfl _ _) rfl (s_X5_readTest hT hCy60 (x := (1, (en T tn ((rdP T tn (Prod.snd (Prod.snd (rdV T tn b)) 0) (rdV T tn b))).2.1), ((rdP T tn (Prod.snd (Prod.snd (rdV T tn b)) 0) (rdV T tn b))).2.2)) rfl hRy60 hku hUy60 (okX_P (okX_V T tn b))) rgv_X5_89 rhv_X5_readTest ⟨(Nat.le_of_ble_eq_true rfl), (Nat.le_of_ble_eq_true rfl)⟩ hl.1 rfl (Nat.le_of_ble_eq_true rfl) ⟨Nat.zero_le _, Nat.zero_le _⟩ rdX5_readRule_64 (fun r Ma64 H locs hp w => ?_)
            obtain ⟨hGy63, hry63, hRy63, hUy63, hFy63⟩ : XQ T tn Ma61 ru (rdT T tn (1, (en T tn ((rdP T tn (Prod.snd (Prod.snd (rdV T tn b)) 0) (rdV T tn b))).2.1), ((rdP T tn (Prod.snd (Prod.snd (rdV T tn b)) 0) (rdV T tn b))).2.2)) r Ma64 := hp
            have hCy63 := isTc.u hCy60 hFy63 (ru_6 hku)
            have hFy63 : FrU Ma64 M ru := FrU.tr hFy60 hFy63
            rcases hGy63.1 with gy63 | gy63
            · refine r_val (v := zI 0) (hry63.trans (by rw [gy63]; rfl)) ?_
              refine z_if_ne (tgt := 72) hx hb (by omega) rdX5_readRule_67 (by decide) (fun c65 => False.elim (by omega)) (fun c65 => ?_)
              refine lv_iconst (v := zI 0) hx hb rdX5_readRule_70 rfl ?_
              exact e_z F w hr hlocks (nar_z (by omega)) (XQ.of (rdR_2 gV (rdI_y gy52 (by omega) hty60) gy63) hGy63 hRy63 hUy63 hFy63 (congrArg (fun q9 : Nat => (q9 : Int)) gy63)) rdX5_readRule_71
            · refine r_val (v := zI 1) (hry63.trans (by rw [gy63]; rfl)) ?_
              refine z_if_ne (tgt := 72) hx hb (by omega) rdX5_readRule_67 (by decide) (fun c66 => ?_) (fun c66 => False.elim (by omega))
              have eI : rdI T tn ((rdV T tn b).2.2 0) (rdP T tn (Prod.snd (Prod.snd (rdV T tn b)) 0) (rdV T tn b)) = (rdT T tn (1, (en T tn ((rdP T tn (Prod.snd (Prod.snd (rdV T tn b)) 0) (rdV T tn b))).2.1), ((rdP T tn (Prod.snd (Prod.snd (rdV T tn b)) 0) (rdV T tn b))).2.2)) := (rdI_y gy52 (by omega) hty60)
              have hbb := hRy63.1
              have hskk := sk_le (T := T) hbb
              refine lv_aload_n hx hb rdX5_readRule_72 rfl (lv_at hl 0 rfl) ?_
              refine f_5_0 F w (a := 4) rfl rtb_22 rdX5_readRule_73 ?_
              refine lv_aload_n hx hb rdX5_readRule_76 rfl (lv_at hl 0 rfl) ?_
              refine f_5_3 F w (a := 4) rfl rtb_33 rdX5_readRule_77 ?_
              refine r_val (v := (zI (((sk T tn ((rdT T tn (1, (en T tn ((rdP T tn (Prod.snd (Prod.snd (rdV T tn b)) 0) (rdV T tn b))).2.1), ((rdP T tn (Prod.snd (Prod.snd (rdV T tn b)) 0) (rdV T tn b))).2.2))).2.1) : Nat) : Int))) (hRy63.2.1) ?_
              refine x_Vi F w (As := [.int (zI (((sk T tn ((rdT T tn (1, (en T tn ((rdP T tn (Prod.snd (Prod.snd (rdV T tn b)) 0) (rdV T tn b))).2.1), ((rdP T tn (Prod.snd (Prod.snd (rdV T tn b)) 0) (rdV T tn b))).2.2))).2.1) : Nat) : Int))]) (rest := []) (a := 1) (kd_lt (a := 1) (show kd 1 = (8, 0, 0) from rfl) (by decide)) (sh_8 rfl _ _) rfl (s_X8_signAt hT hCy63 (z := (((sk T tn ((rdT T tn (1, (en T tn ((rdP T tn (Prod.snd (Prod.snd (rdV T tn b)) 0) (rdV T tn b))).2.1), ((rdP T tn (Prod.snd (Prod.snd (rdV T tn b)) 0) (rdV T tn b))).2.2))).2.1) : Nat) : Int)) (by omega)) rgv_X5_52 rhv_X8_signAt ⟨(Nat.le_of_ble_eq_true rfl), (Nat.le_of_ble_eq_true rfl)⟩ hl.1 rfl (Nat.le_of_ble_eq_true rfl) ⟨Nat.zero_le _, Nat.zero_le _⟩ rdX5_readRule_80 (fun H locs w => ?_)
              have hg67 := sg_rg hT (((sk T tn ((rdT T tn (1, (en T tn ((rdP T tn (Prod.snd (Prod.snd (rdV T tn b)) 0) (rdV T tn b))).2.1), ((rdP T tn (Prod.snd (Prod.snd (rdV T tn b)) 0) (rdV T tn b))).2.2))).2.1) : Nat) : Int)
              have hh67 := sg_c (T := T) (N := tn) (sk T tn ((rdT T tn (1, (en T tn ((rdP T tn (Prod.snd (Prod.snd (rdV T tn b)) 0) (rdV T tn b))).2.1), ((rdP T tn (Prod.snd (Prod.snd (rdV T tn b)) 0) (rdV T tn b))).2.2))).2.1)
              refine lv_bipush (v := zI 59) hx hb rdX5_readRule_83 (by decide) ?_
              refine z_icmp_eq (tgt := 90) hx hb (by omega) (by omega) rdX5_readRule_85 (by decide) (fun c69 => ?_) (fun c69 => ?_)
              · refine lv_aload_n hx hb rdX5_readRule_90 rfl (lv_at hl 0 rfl) ?_
                refine k_Vv F w (As := []) (rest := []) (a := 4) (kd_lt (a := 4) (show kd 4 = (5, 0, 0) from rfl) (by decide)) (sh_5 rfl _ _) rfl (s_X5_step hT hCy63 (E := en T tn ((rdT T tn (1, (en T tn ((rdP T tn (Prod.snd (Prod.snd (rdV T tn b)) 0) (rdV T tn b))).2.1), ((rdP T tn (Prod.snd (Prod.snd (rdV T tn b)) 0) (rdV T tn b))).2.2))).2.1) (en_le hRy63.1).2.1 hRy63.2.2.1) rgv_X5_36 rhv_X5_step ⟨(Nat.le_of_ble_eq_true rfl), (Nat.le_of_ble_eq_true rfl)⟩ hl.1 rfl (Nat.le_of_ble_eq_true rfl) ⟨Nat.zero_le _, Nat.zero_le _⟩ rdX5_readRule_91 (fun Ma71 H locs hp w => ?_)
                obtain ⟨hRy70, hQy70⟩ := hp
                have hCy70 := isTc.q hCy63 hQy70
                have hFy70 : FrU Ma71 M ru := FrU.tr hFy63 (FrU.q hQy70)
                have hUy70 := isU.fr hUy63 (hQy70.1 (ru + 1) (by omega))
                refine lv_iconst (v := zI 1) hx hb rdX5_readRule_94 rfl ?_
                exact e_z F w hr hlocks (nar_z (by omega)) (XQ.mk1 (rdR_I gV eI (rdS_y gy63 (by omega) (by omega))) hRy70 hUy70 hFy70) rdX5_readRule_95
              · refine lv_iconst (v := zI 0) hx hb rdX5_readRule_88 rfl ?_
                exact e_z F w hr hlocks (nar_z (by omega)) (XQ.mk0 (rdR_I gV eI (rdS_n gy63 (by omega))) hRy63 hUy63 hFy63) rdX5_readRule_89
          · rw [hMe] at w
            refine z_if_eq (tgt := 72) hx hb (by omega) rdX5_readRule_59 (by decide) (fun c72 => ?_) (fun c72 => False.elim (by omega))
            have eI : rdI T tn ((rdV T tn b).2.2 0) (rdP T tn (Prod.snd (Prod.snd (rdV T tn b)) 0) (rdV T tn b)) = (rdP T tn (Prod.snd (Prod.snd (rdV T tn b)) 0) (rdV T tn b)) := (rdI_n (Or.inr (Or.inr hty60)))
            have hbb := hRy52.1
            have hskk := sk_le (T := T) hbb
            refine lv_aload_n hx hb rdX5_readRule_72 rfl (lv_at hl 0 rfl) ?_
            refine f_5_0 F w (a := 4) rfl rtb_22 rdX5_readRule_73 ?_
            refine lv_aload_n hx hb rdX5_readRule_76 rfl (lv_at hl 0 rfl) ?_
            refine f_5_3 F w (a := 4) rfl rtb_33 rdX5_readRule_77 ?_
            refine r_val (v := (zI (((sk T tn ((rdP T tn (Prod.snd (Prod.snd (rdV T tn b)) 0) (rdV T tn b))).2.1) : Nat) : Int))) (hRy52.2.1) ?_
            refine x_Vi F w (As := [.int (zI (((sk T tn ((rdP T tn (Prod.snd (Prod.snd (rdV T tn b)) 0) (rdV T tn b))).2.1) : Nat) : Int))]) (rest := []) (a := 1) (kd_lt (a := 1) (show kd 1 = (8, 0, 0) from rfl) (by decide)) (sh_8 rfl _ _) rfl (s_X8_signAt hT hCy52 (z := (((sk T tn ((rdP T tn (Prod.snd (Prod.snd (rdV T tn b)) 0) (rdV T tn b))).2.1) : Nat) : Int)) (by omega)) rgv_X5_52 rhv_X8_signAt ⟨(Nat.le_of_ble_eq_true rfl), (Nat.le_of_ble_eq_true rfl)⟩ hl.1 rfl (Nat.le_of_ble_eq_true rfl) ⟨Nat.zero_le _, Nat.zero_le _⟩ rdX5_readRule_80 (fun H locs w => ?_)
            have hg73 := sg_rg hT (((sk T tn ((rdP T tn (Prod.snd (Prod.snd (rdV T tn b)) 0) (rdV T tn b))).2.1) : Nat) : Int)
            have hh73 := sg_c (T := T) (N := tn) (sk T tn ((rdP T tn (Prod.snd (Prod.snd (rdV T tn b)) 0) (rdV T tn b))).2.1)
            refine lv_bipush (v := zI 59) hx hb rdX5_readRule_83 (by decide) ?_
            refine z_icmp_eq (tgt := 90) hx hb (by omega) (by omega) rdX5_readRule_85 (by decide) (fun c75 => ?_) (fun c75 => ?_)
            · refine lv_aload_n hx hb rdX5_readRule_90 rfl (lv_at hl 0 rfl) ?_
              refine k_Vv F w (As := []) (rest := []) (a := 4) (kd_lt (a := 4) (show kd 4 = (5, 0, 0) from rfl) (by decide)) (sh_5 rfl _ _) rfl (s_X5_step hT hCy52 (E := en T tn ((rdP T tn (Prod.snd (Prod.snd (rdV T tn b)) 0) (rdV T tn b))).2.1) (en_le hRy52.1).2.1 hRy52.2.2.1) rgv_X5_36 rhv_X5_step ⟨(Nat.le_of_ble_eq_true rfl), (Nat.le_of_ble_eq_true rfl)⟩ hl.1 rfl (Nat.le_of_ble_eq_true rfl) ⟨Nat.zero_le _, Nat.zero_le _⟩ rdX5_readRule_91 (fun Ma77 H locs hp w => ?_)
              obtain ⟨hRy76, hQy76⟩ := hp
              have hCy76 := isTc.q hCy52 hQy76
              have hFy76 : FrU Ma77 M ru := FrU.tr hFy52 (FrU.q hQy76)
              have hUy76 := isU.fr hUy52 (hQy76.1 (ru + 1) (by omega))
              refine lv_iconst (v := zI 1) hx hb rdX5_readRule_94 rfl ?_
              exact e_z F w hr hlocks (nar_z (by omega)) (XQ.mk1 (rdR_I gV eI (rdS_y gy52 (by omega) (by omega))) hRy76 hUy76 hFy76) rdX5_readRule_95
            · refine lv_iconst (v := zI 0) hx hb rdX5_readRule_88 rfl ?_
              exact e_z F w hr hlocks (nar_z (by omega)) (XQ.mk0 (rdR_I gV eI (rdS_n gy52 (by omega))) hRy52 hUy52 hFy52) rdX5_readRule_89
        · rw [hMe] at w
          refine z_if_eq (tgt := 72) hx hb (by omega) rdX5_readRule_50 (by decide) (fun c78 => ?_) (fun c78 => False.elim (by omega))
          have eI : rdI T tn ((rdV T tn b).2.2 0) (rdP T tn (Prod.snd (Prod.snd (rdV T tn b)) 0) (rdV T tn b)) = (rdP T tn (Prod.snd (Prod.snd (rdV T tn b)) 0) (rdV T tn b)) := (rdI_n (Or.inr (Or.inl (by omega))))
          have hbb := hRy52.1
          have hskk := sk_le (T := T) hbb
          refine lv_aload_n hx hb rdX5_readRule_72 rfl (lv_at hl 0 rfl) ?_
          refine f_5_0 F w (a := 4) rfl rtb_22 rdX5_readRule_73 ?_
          refine lv_aload_n hx hb rdX5_readRule_76 rfl (lv_at hl 0 rfl) ?_
          refine f_5_3 F w (a := 4) rfl rtb_33 rdX5_readRule_77 ?_
          refine r_val (v := (zI (((sk T tn ((rdP T tn (Prod.snd (Prod.snd (rdV T tn b)) 0) (rdV T tn b))).2.1) : Nat) : Int))) (hRy52.2.1) ?_
          refine x_Vi F w (As := [.int (zI (((sk T tn ((rdP T tn (Prod.snd (Prod.snd (rdV T tn b)) 0) (rdV T tn b))).2.1) : Nat) : Int))]) (rest := []) (a := 1) (kd_lt (a := 1) (show kd 1 = (8, 0, 0) from rfl) (by decide)) (sh_8 rfl _ _) rfl (s_X8_signAt hT hCy52 (z := (((sk T tn ((rdP T tn (Prod.snd (Prod.snd (rdV T tn b)) 0) (rdV T tn b))).2.1) : Nat) : Int)) (by omega)) rgv_X5_52 rhv_X8_signAt ⟨(Nat.le_of_ble_eq_true rfl), (Nat.le_of_ble_eq_true rfl)⟩ hl.1 rfl (Nat.le_of_ble_eq_true rfl) ⟨Nat.zero_le _, Nat.zero_le _⟩ rdX5_readRule_80 (fun H locs w => ?_)
          have hg79 := sg_rg hT (((sk T tn ((rdP T tn (Prod.snd (Prod.snd (rdV T tn b)) 0) (rdV T tn b))).2.1) : Nat) : Int)
          have hh79 := sg_c (T := T) (N := tn) (sk T tn ((rdP T tn (Prod.snd (Prod.snd (rdV T tn b)) 0) (rdV T tn b))).2.1)
          refine lv_bipush (v := zI 59) hx hb rdX5_readRule_83 (by decide) ?_
          refine z_icmp_eq (tgt := 90) hx hb (by omega) (by omega) rdX5_readRule_85 (by decide) (fun c81 => ?_) (fun c81 => ?_)
          · refine lv_aload_n hx hb rdX5_readRule_90 rfl (lv_at hl 0 rfl) ?_
            refine k_Vv F w (As := []) (rest := []) (a := 4) (kd_lt (a := 4) (show kd 4 = (5, 0, 0) from rfl) (by decide)) (sh_5 rfl _ _) rfl (s_X5_step hT hCy52 (E := en T tn ((rdP T tn (Prod.snd (Prod.snd (rdV T tn b)) 0) (rdV T tn b))).2.1) (en_le hRy52.1).2.1 hRy52.2.2.1) rgv_X5_36 rhv_X5_step ⟨(Nat.le_of_ble_eq_true rfl), (Nat.le_of_ble_eq_true rfl)⟩ hl.1 rfl (Nat.le_of_ble_eq_true rfl) ⟨Nat.zero_le _, Nat.zero_le _⟩ rdX5_readRule_91 (fun Ma83 H locs hp w => ?_)
            obtain ⟨hRy82, hQy82⟩ := hp
            have hCy82 := isTc.q hCy52 hQy82
            have hFy82 : FrU Ma83 M ru := FrU.tr hFy52 (FrU.q hQy82)
            have hUy82 := isU.fr hUy52 (hQy82.1 (ru + 1) (by omega))
            refine lv_iconst (v := zI 1) hx hb rdX5_readRule_94 rfl ?_
            exact e_z F w hr hlocks (nar_z (by omega)) (XQ.mk1 (rdR_I gV eI (rdS_y gy52 (by omega) (by omega))) hRy82 hUy82 hFy82) rdX5_readRule_95
          · refine lv_iconst (v := zI 0) hx hb rdX5_readRule_88 rfl ?_
            exact e_z F w hr hlocks (nar_z (by omega)) (XQ.mk0 (rdR_I gV eI (rdS_n gy52 (by omega))) hRy52 hUy52 hFy52) rdX5_readRule_89
