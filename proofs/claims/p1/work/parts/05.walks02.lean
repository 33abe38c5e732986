theorem tk_X12_keeps : Cond.code yX12_keeps cX12_keeps 2 none ∈ TB := tbm (tc6 (List.mem_of_getElem? (i := 9) rfl)) rfl
theorem gc_X12_keeps : GoodIn TB (cw yX12_keeps cX12_keeps 2 none) := goodIn_c2 tk_X12_keeps
theorem tb_284 : Cond.methodLink "ToneLinesModel" 242 yX12_keeps ∈ TB := tbm (tc6 (List.mem_of_getElem? (i := 6) rfl)) rfl
theorem tb_285 : Cond.instanceMethod yX12_keeps ∈ TB := tbm (tc6 (List.mem_of_getElem? (i := 8) rfl)) rfl
theorem tb_286 : Cond.selects "ToneLinesModel" yX12_keeps yX12_keeps ∈ TB := tbp (List.mem_of_getElem? (i := 50) rfl) rfl
theorem gv_X12_242 : GoodIn TB (wsV RX12 242 RX12 yX12_keeps (cw yX12_keeps cX12_keeps 2 none)) := goodIn_4 tb_284 tb_285 tb_286 tb_150 gc_X12_keeps
theorem hv_X12_keeps : yX12_keeps.cls = RX12 ∧ yX12_keeps.cls ≠ "java/lang/invoke/MethodHandle" ∧ yX12_keeps.cls ≠ "java/lang/invoke/VarHandle" ∧ (parseMethodDescriptor yX12_keeps.desc).map (fun d => d.parameters.length) = some 0 := by decide +kernel
theorem dX12_tone_40 : decode cX12_tone 40 = .ok (.aload_n 0, 1) := by decide +kernel
theorem dX12_tone_41 : decode cX12_tone 41 = .ok (.getfield 13, 3) := by decide +kernel
theorem dX12_tone_44 : decode cX12_tone 44 = .ok (.iload_n 1, 1) := by decide +kernel
theorem dX12_tone_45 : decode cX12_tone 45 = .ok (.iload_n 2, 1) := by decide +kernel
theorem dX12_tone_46 : decode cX12_tone 46 = .ok (.invokestatic 112, 3) := by decide +kernel
theorem dX12_insert_0 : decode cX12_insert 0 = .ok (.aload_n 0, 1) := by decide +kernel
theorem dX12_insert_1 : decode cX12_insert 1 = .ok (.iconst 0, 1) := by decide +kernel
theorem dX12_insert_2 : decode cX12_insert 2 = .ok (.iaload, 1) := by decide +kernel
theorem dX12_insert_3 : decode cX12_insert 3 = .ok (.istore_n 3, 1) := by decide +kernel
theorem dX12_insert_4 : decode cX12_insert 4 = .ok (.iload_n 3, 1) := by decide +kernel
theorem dX12_insert_5 : decode cX12_insert 5 = .ok (.iload_n 1, 1) := by decide +kernel
theorem dX12_insert_6 : decode cX12_insert 6 = .ok (.if_icmp .le 35, 3) := by decide +kernel
theorem dX12_insert_41 : decode cX12_insert 41 = .ok (.aload_n 0, 1) := by decide +kernel
theorem dX12_insert_42 : decode cX12_insert 42 = .ok (.iconst 1, 1) := by decide +kernel
theorem dX12_insert_43 : decode cX12_insert 43 = .ok (.iload_n 1, 1) := by decide +kernel
theorem dX12_insert_44 : decode cX12_insert 44 = .ok (.iadd, 1) := by decide +kernel
theorem dX12_insert_45 : decode cX12_insert 45 = .ok (.iload_n 2, 1) := by decide +kernel
theorem dX12_insert_46 : decode cX12_insert 46 = .ok (.iastore, 1) := by decide +kernel
theorem dX12_insert_47 : decode cX12_insert 47 = .ok (.aload_n 0, 1) := by decide +kernel
theorem dX12_insert_48 : decode cX12_insert 48 = .ok (.bipush 13, 2) := by decide +kernel
theorem dX12_insert_50 : decode cX12_insert 50 = .ok (.iload_n 1, 1) := by decide +kernel
theorem dX12_insert_51 : decode cX12_insert 51 = .ok (.iadd, 1) := by decide +kernel
theorem dX12_insert_52 : decode cX12_insert 52 = .ok (.iconst 0, 1) := by decide +kernel
theorem dX12_insert_53 : decode cX12_insert 53 = .ok (.iastore, 1) := by decide +kernel
theorem dX12_insert_54 : decode cX12_insert 54 = .ok (.aload_n 0, 1) := by decide +kernel
theorem dX12_insert_55 : decode cX12_insert 55 = .ok (.iconst 0, 1) := by decide +kernel
theorem dX12_insert_56 : decode cX12_insert 56 = .ok (.dup2, 1) := by decide +kernel
theorem dX12_insert_57 : decode cX12_insert 57 = .ok (.iaload, 1) := by decide +kernel
theorem dX12_insert_58 : decode cX12_insert 58 = .ok (.iconst 1, 1) := by decide +kernel
theorem dX12_insert_59 : decode cX12_insert 59 = .ok (.iadd, 1) := by decide +kernel
theorem dX12_insert_60 : decode cX12_insert 60 = .ok (.iastore, 1) := by decide +kernel
theorem dX12_insert_61 : decode cX12_insert 61 = .ok (.return_, 1) := by decide +kernel
set_option maxRecDepth 4000 in
theorem c_X12_insert_125 {l : Launch} {D : va_G} {B : Nat} {cy : Nat → ClassId} {M : Mem} (h0 : M.1 147 0 = 0) (h1 : M.1 147 1 = 0) (h2 : M.1 147 13 = 0) : Cv l D B cy yX12_insert cX12_insert 4 0 0 [.ref (B + 147), .int 0, .int 0] M (fun M1 => M1 = (st M 147 0 1)) := by
  refine s_any (by decide) (Nat.le_of_ble_eq_true rfl) ?_
  intro p e s m below meth c ls F hr hlocks w hl
  have F : CallFix p m c cX12_insert 4 s _ TB RX12 := F
  have hx := F.1
  have hb := F.2.1
  have hl : lv_has ls 4 [(0, .ref (B + 147)), (1, .int 0), (2, .int 0)] := hl
  refine lv_aload_n hx hb dX12_insert_0 rfl (lv_at hl 0 rfl) ?_
  refine lv_iconst (v := 0) hx hb dX12_insert_1 (by decide) ?_
  refine g_iald F w (a := 147) rfl (j := 0) ⟨by decide, by decide⟩ (by decide) dX12_insert_2 ?_
  refine r_val (v := 0) (h0) ?_
  refine lv_istore_n (lv' := [(3, .int 0), (0, .ref (B + 147)), (1, .int 0), (2, .int 0)]) hx hb dX12_insert_3 rfl hl (by decide) rfl (fun ls hl => ?_)
  refine lv_iload_n hx hb dX12_insert_4 rfl (lv_at hl 0 rfl) ?_
  refine lv_iload_n hx hb dX12_insert_5 rfl (lv_at hl 2 rfl) ?_
  refine lv_icmp_le (tgt := 41) hx hb dX12_insert_6 (by decide) (fun _ => ?_) (fun c1 => absurd c1 (by decide))
  refine lv_aload_n hx hb dX12_insert_41 rfl (lv_at hl 1 rfl) ?_
  refine lv_iconst (v := 1) hx hb dX12_insert_42 (by decide) ?_
  refine lv_iload_n hx hb dX12_insert_43 rfl (lv_at hl 2 rfl) ?_
  refine lv_iadd hx hb dX12_insert_44 ?_
  refine r_val (v := 1) (by decide) ?_
  refine lv_iload_n hx hb dX12_insert_45 rfl (lv_at hl 3 rfl) ?_
  refine g_iast F w (a := 147) rfl (j := 1) ⟨by decide, by decide⟩ (by decide) dX12_insert_46 (fun H locs w => ?_)
  rw [st_same (h1)] at w
  refine lv_aload_n hx hb dX12_insert_47 rfl (lv_at hl 1 rfl) ?_
  refine lv_bipush (v := 13) hx hb dX12_insert_48 (by decide) ?_
  refine lv_iload_n hx hb dX12_insert_50 rfl (lv_at hl 2 rfl) ?_
  refine lv_iadd hx hb dX12_insert_51 ?_
  refine r_val (v := 13) (by decide) ?_
  refine lv_iconst (v := 0) hx hb dX12_insert_52 (by decide) ?_
  refine g_iast F w (a := 147) rfl (j := 13) ⟨by decide, by decide⟩ (by decide) dX12_insert_53 (fun H locs w => ?_)
  rw [st_same (h2)] at w
  refine lv_aload_n hx hb dX12_insert_54 rfl (lv_at hl 1 rfl) ?_
  refine lv_iconst (v := 0) hx hb dX12_insert_55 (by decide) ?_
  refine lv_dup2_11 hx hb dX12_insert_56 rfl rfl ?_
  refine g_iald F w (a := 147) rfl (j := 0) ⟨by decide, by decide⟩ (by decide) dX12_insert_57 ?_
  refine r_val (v := 0) (h0) ?_
  refine lv_iconst (v := 1) hx hb dX12_insert_58 (by decide) ?_
  refine lv_iadd hx hb dX12_insert_59 ?_
  refine r_val (v := 1) (by decide) ?_
  refine g_iast F w (a := 147) rfl (j := 0) ⟨by decide, by decide⟩ (by decide) dX12_insert_60 (fun H locs w => ?_)
  exact e_v F w hr hlocks rfl dX12_insert_61
theorem tk_X12_insert : Cond.code yX12_insert cX12_insert 4 none ∈ TB := tbm (tc5 (List.mem_of_getElem? (i := 167) rfl)) rfl
theorem gc_X12_insert : GoodIn TB (cw yX12_insert cX12_insert 4 none) := goodIn_c2 tk_X12_insert
theorem tb_287 : Cond.methodLink "ToneLinesModel" 112 yX12_insert ∈ TB := tbm (tc5 (List.mem_of_getElem? (i := 165) rfl)) rfl
theorem tb_288 : Cond.static yX12_insert ∈ TB := tbm (tc5 (List.mem_of_getElem? (i := 166) rfl)) rfl
theorem gs_X12_112 : GoodIn TB (va_wsS RX12 112 yX12_insert (cw yX12_insert cX12_insert 4 none)) := goodIn_3 tb_287 tb_288 tb_150 gc_X12_insert
theorem hs_X12_insert : yX12_insert.cls ≠ "java/lang/invoke/MethodHandle" ∧ yX12_insert.cls ≠ "java/lang/invoke/VarHandle" ∧ (parseMethodDescriptor yX12_insert.desc).map (fun d => d.parameters.length) = some 3 := by decide +kernel
theorem dX12_tone_49 : decode cX12_tone 49 = .ok (.iconst 1, 1) := by decide +kernel
theorem dX12_tone_50 : decode cX12_tone 50 = .ok (.ireturn, 1) := by decide +kernel
set_option maxRecDepth 4000 in
theorem c_X12_tone_126 {l : Launch} {D : va_G} {B : Nat} {cy : Nat → ClassId} {M : Mem} (h0 : M.1 147 0 = 0) (h1 : M.1 146 20 = 0) (h2 : M.1 155 0 = 0) (h3 : M.1 147 1 = 0) (h4 : M.1 155 1 = 0) (h5 : M.1 147 2 = 0) (h6 : M.1 155 2 = 0) (h7 : M.1 147 3 = 0) (h8 : M.1 155 3 = 0) (h9 : M.1 147 4 = 0) (h10 : M.1 155 4 = 0) (h11 : M.1 147 5 = 0) (h12 : M.1 155 5 = 0) (h13 : M.1 147 6 = 0) (h14 : M.1 155 6 = 0) (h15 : M.1 147 7 = 0) (h16 : M.1 155 7 = 0) (h17 : M.1 147 8 = 0) (h18 : M.1 155 8 = 0) (h19 : M.1 147 9 = 0) (h20 : M.1 155 9 = 0) (h21 : M.1 147 10 = 0) (h22 : M.1 155 10 = 0) (h23 : M.1 147 11 = 0) (h24 : M.1 155 11 = 0) (h25 : M.1 147 12 = 0) (h26 : M.1 155 12 = 0) (h27 : M.1 147 13 = 0) (h28 : M.1 155 13 = 0) (h29 : M.1 147 14 = 0) (h30 : M.1 155 14 = 0) (h31 : M.1 147 15 = 0) (h32 : M.1 155 15 = 0) (h33 : M.1 147 16 = 0) (h34 : M.1 155 16 = 0) (h35 : M.1 147 17 = 0) (h36 : M.1 155 17 = 0) (h37 : M.1 147 18 = 0) (h38 : M.1 155 18 = 0) (h39 : M.1 147 19 = 0) (h40 : M.1 155 19 = 0) (h41 : M.1 147 20 = 0) (h42 : M.1 155 20 = 0) (h43 : M.1 147 21 = 0) (h44 : M.1 155 21 = 0) (h45 : M.1 147 22 = 0) (h46 : M.1 155 22 = 0) (h47 : M.1 147 23 = 0) (h48 : M.1 155 23 = 0) (h49 : M.1 147 24 = 0) (h50 : M.1 155 24 = 0) (h51 : M.1 147 25 = 0) (h52 : M.1 155 25 = 0) (h53 : M.1 147 26 = 0) (h54 : M.1 155 26 = 0) (h55 : M.1 147 27 = 0) (h56 : M.1 155 27 = 0) : Ci l D B cy yX12_tone cX12_tone 3 (some .boolean) 1 23 [.ref (B + 146), .int 0, .int 0] M (fun r M1 => r = 1 ∧ M1 = (st (st M 146 20 1) 147 0 1)) := by
  refine s_any (by decide) (Nat.le_of_ble_eq_true rfl) ?_
  intro p e s m below meth c ls F hr hlocks w hl
  have F : CallFix p m c cX12_tone 3 s _ TB RX12 := F
  have hx := F.1
  have hb := F.2.1
  have hl : lv_has ls 3 [(0, .ref (B + 146)), (1, .int 0), (2, .int 0)] := hl
  refine lv_iload_n hx hb dX12_tone_0 rfl (lv_at hl 1 rfl) ?_
  refine lv_iconst (v := 0) hx hb dX12_tone_1 (by decide) ?_
  refine lv_aload_n hx hb dX12_tone_2 rfl (lv_at hl 0 rfl) ?_
  refine f_12_1 F w (a := 146) rfl tb_126 dX12_tone_3 ?_
  refine lv_iconst (v := 0) hx hb dX12_tone_6 (by decide) ?_
  refine g_iald F w (a := 147) rfl (j := 0) ⟨by decide, by decide⟩ (by decide) dX12_tone_7 ?_
  refine r_val (v := 0) (h0) ?_
  refine x_Si F w (As := [.int 0, .int 0, .int 0]) (rest := []) (c_X12_in_69) gs_X12_55 hs_X12_in ⟨Nat.le_of_ble_eq_true rfl, Nat.le_of_ble_eq_true rfl⟩ hl.1 rfl (Nat.le_of_ble_eq_true rfl) ⟨Nat.zero_le _, Nat.zero_le _⟩ dX12_tone_8 (fun H locs w => ?_)
  refine lv_if_eq (tgt := 34) hx hb dX12_tone_11 (by decide) (fun c1 => absurd c1 (by decide)) (fun _ => ?_)
  refine lv_iload_n hx hb dX12_tone_14 rfl (lv_at hl 2 rfl) ?_
  refine lv_iconst (v := 0) hx hb dX12_tone_15 (by decide) ?_
  refine lv_iconst (v := 2) hx hb dX12_tone_16 (by decide) ?_
  refine x_Si F w (As := [.int 0, .int 0, .int 2]) (rest := []) (c_X12_in_123) gs_X12_55 hs_X12_in ⟨Nat.le_of_ble_eq_true rfl, Nat.le_of_ble_eq_true rfl⟩ hl.1 rfl (Nat.le_of_ble_eq_true rfl) ⟨Nat.zero_le _, Nat.zero_le _⟩ dX12_tone_17 (fun H locs w => ?_)
  refine lv_if_eq (tgt := 34) hx hb dX12_tone_20 (by decide) (fun c1 => absurd c1 (by decide)) (fun _ => ?_)
  refine lv_aload_n hx hb dX12_tone_23 rfl (lv_at hl 0 rfl) ?_
  refine f_12_1 F w (a := 146) rfl tb_126 dX12_tone_24 ?_
  refine lv_iconst (v := 0) hx hb dX12_tone_27 (by decide) ?_
  refine g_iald F w (a := 147) rfl (j := 0) ⟨by decide, by decide⟩ (by decide) dX12_tone_28 ?_
  refine r_val (v := 0) (h0) ?_
  refine lv_bipush (v := 12) hx hb dX12_tone_29 (by decide) ?_
  refine lv_icmp_ne (tgt := 36) hx hb dX12_tone_31 (by decide) (fun _ => ?_) (fun c1 => absurd c1 (by decide))
  refine lv_aload_n hx hb dX12_tone_36 rfl (lv_at hl 0 rfl) ?_
  refine x_Vv F w (As := []) (rest := []) (a := 146) (by decide) (sh_12 rfl _ _) rfl (c_X12_keeps_124 (h1) (h0) (h2) (h3) (h4) (h5) (h6) (h7) (h8) (h9) (h10) (h11) (h12) (h13) (h14) (h15) (h16) (h17) (h18) (h19) (h20) (h21) (h22) (h23) (h24) (h25) (h26) (h27) (h28) (h29) (h30) (h31) (h32) (h33) (h34) (h35) (h36) (h37) (h38) (h39) (h40) (h41) (h42) (h43) (h44) (h45) (h46) (h47) (h48) (h49) (h50) (h51) (h52) (h53) (h54) (h55) (h56)) gv_X12_242 hv_X12_keeps ⟨Nat.le_of_ble_eq_true rfl, Nat.le_of_ble_eq_true rfl⟩ hl.1 rfl (Nat.le_of_ble_eq_true rfl) ⟨Nat.zero_le _, Nat.zero_le _⟩ dX12_tone_37 (fun H locs w => ?_)
  refine lv_aload_n hx hb dX12_tone_40 rfl (lv_at hl 0 rfl) ?_
  refine f_12_1 F w (a := 146) rfl tb_126 dX12_tone_41 ?_
  refine lv_iload_n hx hb dX12_tone_44 rfl (lv_at hl 1 rfl) ?_
  refine lv_iload_n hx hb dX12_tone_45 rfl (lv_at hl 2 rfl) ?_
  refine x_Sv F w (As := [.ref (B + 147), .int 0, .int 0]) (rest := []) (c_X12_insert_125 ((st_ne (by decide)).trans h0) ((st_ne (by decide)).trans h3) ((st_ne (by decide)).trans h27)) gs_X12_112 hs_X12_insert ⟨Nat.le_of_ble_eq_true rfl, Nat.le_of_ble_eq_true rfl⟩ hl.1 rfl (Nat.le_of_ble_eq_true rfl) ⟨Nat.zero_le _, Nat.zero_le _⟩ dX12_tone_46 (fun H locs w => ?_)
  refine lv_iconst (v := 1) hx hb dX12_tone_49 (by decide) ?_
  exact e_z F w hr hlocks (by decide) ⟨rfl, rfl⟩ dX12_tone_50
set_option maxRecDepth 8000 in
theorem la_6_13 {p : Program} {l : Launch} {e : Env} {s : State} {m : MethodId} {below : List Frame} {meth : Method} {c : Code} {D : va_G} {B b : Nat} {cy : Nat → ClassId} {H : Heap} {locs : List Loc} {ls : Array Slot} {xs : Nat → Int32} {Q : State → Prop} (F : CallFix p m c code 4 s #[Value.ref b] TB RL) (hX : va_X b 6 xs s s.heap) (hbl : b < s.heap.size) (hbA : ¬ B ≤ b) (w : Wd D B cy s s.heap M0 H locs) (hl : lv_has ls 4 [(3, .int 0), (2, .ref (B + 146)), (1, .ref (B + 0)), (0, .ref b)]) (x1 : xs 1 = 0) (x2 : xs 2 = 0) (kk : ∀ (M1 : Mem) (H1 : Heap) (locs1 : List Loc), Wd D B cy s s.heap M1 H1 locs1 → W p l e room_1 s m #[Value.ref b] below meth c H1 locs1 159 13107 Q (F0 m 1065 ls [])) : W p l e room_1 s m #[Value.ref b] below meth c H locs 159 13107 Q (F0 m 342 ls []) := by
  have hx := F.1
  have hb := F.2.1
  refine lv_aload_n hx hb dL_law_342 rfl (lv_at hl 2 rfl) ?_
  refine lv_aload_n hx hb dL_law_343 rfl (lv_at hl 3 rfl) ?_
  refine lv_iload_n hx hb dL_law_344 rfl (lv_at hl 0 rfl) ?_
  refine lv_iconst (v := 1) hx hb dL_law_345 (by decide) ?_
  refine lv_iadd hx hb dL_law_346 ?_
  refine r_val (v := 1) (by decide) ?_
  refine va_sld hx hb hX hbl hbA w.2.2.1 (vpi (by decide) (by decide)) dL_law_347 ?_
  refine r_val (v := 0) ((congrArg xs (show (1 : Int32).toNatClampNeg = 1 by decide)).trans x1) ?_
  refine lv_aload_n hx hb dL_law_348 rfl (lv_at hl 3 rfl) ?_
  refine lv_iload_n hx hb dL_law_349 rfl (lv_at hl 0 rfl) ?_
  refine lv_iconst (v := 2) hx hb dL_law_350 (by decide) ?_
  refine lv_iadd hx hb dL_law_351 ?_
  refine r_val (v := 2) (by decide) ?_
  refine va_sld hx hb hX hbl hbA w.2.2.1 (vpi (by decide) (by decide)) dL_law_352 ?_
  refine r_val (v := 0) ((congrArg xs (show (2 : Int32).toNatClampNeg = 2 by decide)).trans x2) ?_
  refine x_Vi F w (As := [.int 0, .int 0]) (rest := []) (a := 0) (by decide) (sh_11 rfl _ _) rfl (c_X11_tone_122 (rfl) (rfl) (rfl) (rfl) (rfl) (rfl) (rfl) (rfl) (rfl) (fun k hk => ((fun k hk => rfl) k hk)) (fun k hk => ((fun k hk => rfl) k hk)) (fun k hk => ((fun k hk => rfl) k hk)) (fun k hk => ((fun k hk => rfl) k hk)) (rfl) (rfl) (rfl) (rfl) (rfl) (rfl)) gv_L_41 hv_X11_tone ⟨Nat.le_of_ble_eq_true rfl, Nat.le_of_ble_eq_true rfl⟩ hl.1 rfl (Nat.le_of_ble_eq_true rfl) ⟨Nat.le_of_ble_eq_true rfl, Nat.le_of_ble_eq_true rfl⟩ dL_law_353 (fun H locs w => ?_)
  refine lv_aload_n hx hb dL_law_356 rfl (lv_at hl 1 rfl) ?_
  refine lv_aload_n hx hb dL_law_357 rfl (lv_at hl 3 rfl) ?_
  refine lv_iload_n hx hb dL_law_358 rfl (lv_at hl 0 rfl) ?_
  refine lv_iconst (v := 1) hx hb dL_law_359 (by decide) ?_
  refine lv_iadd hx hb dL_law_360 ?_
  refine r_val (v := 1) (by decide) ?_
  refine va_sld hx hb hX hbl hbA w.2.2.1 (vpi (by decide) (by decide)) dL_law_361 ?_
  refine r_val (v := 0) ((congrArg xs (show (1 : Int32).toNatClampNeg = 1 by decide)).trans x1) ?_
  refine lv_aload_n hx hb dL_law_362 rfl (lv_at hl 3 rfl) ?_
  refine lv_iload_n hx hb dL_law_363 rfl (lv_at hl 0 rfl) ?_
  refine lv_iconst (v := 2) hx hb dL_law_364 (by decide) ?_
  refine lv_iadd hx hb dL_law_365 ?_
  refine r_val (v := 2) (by decide) ?_
  refine va_sld hx hb hX hbl hbA w.2.2.1 (vpi (by decide) (by decide)) dL_law_366 ?_
  refine r_val (v := 0) ((congrArg xs (show (2 : Int32).toNatClampNeg = 2 by decide)).trans x2) ?_
  refine x_Vi F w (As := [.int 0, .int 0]) (rest := [.int 1]) (a := 146) (by decide) (sh_12 rfl _ _) rfl (c_X12_tone_126 ((st_ne (by decide)).trans ((st_ne (by decide)).trans ((st_ne (by decide)).trans rfl))) ((st_ne (by decide)).trans ((st_ne (by decide)).trans ((st_ne (by decide)).trans rfl))) ((st_ne (by decide)).trans ((st_ne (by decide)).trans ((st_ne (by decide)).trans rfl))) ((st_ne (by decide)).trans ((st_ne (by decide)).trans ((st_ne (by decide)).trans rfl))) ((st_ne (by decide)).trans ((st_ne (by decide)).trans ((st_ne (by decide)).trans rfl))) ((st_ne (by decide)).trans ((st_ne (by decide)).trans ((st_ne (by decide)).trans rfl))) ((st_ne (by decide)).trans ((st_ne (by decide)).trans ((st_ne (by decide)).trans rfl))) ((st_ne (by decide)).trans ((st_ne (by decide)).trans ((st_ne (by decide)).trans rfl))) ((st_ne (by decide)).trans ((st_ne (by decide)).trans ((st_ne (by decide)).trans rfl))) ((st_ne (by decide)).trans ((st_ne (by decide)).trans ((st_ne (by decide)).trans rfl))) ((st_ne (by decide)).trans ((st_ne (by decide)).trans ((st_ne (by decide)).trans rfl))) ((st_ne (by decide)).trans ((st_ne (by decide)).trans ((st_ne (by decide)).trans rfl))) ((st_ne (by decide)).trans ((st_ne (by decide)).trans ((st_ne (by decide)).trans rfl))) ((st_ne (by decide)).trans ((st_ne (by decide)).trans ((st_ne (by decide)).trans rfl))) ((st_ne (by decide)).trans ((st_ne (by decide)).trans ((st_ne (by decide)).trans rfl))) ((st_ne (by decide)).trans ((st_ne (by decide)).trans ((st_ne (by decide)).trans rfl))) ((st_ne (by decide)).trans ((st_ne (by decide)).trans ((st_ne (by decide)).trans rfl))) ((st_ne (by decide)).trans ((st_ne (by decide)).trans ((st_ne (by decide)).trans rfl))) ((st_ne (by decide)).trans ((st_ne (by decide)).trans ((st_ne (by decide)).trans rfl))) ((st_ne (by decide)).trans ((st_ne (by decide)).trans ((st_ne (by decide)).trans rfl))) ((st_ne (by decide)).trans ((st_ne (by decide)).trans ((st_ne (by decide)).trans rfl))) ((st_ne (by decide)).trans ((st_ne (by decide)).trans ((st_ne (by decide)).trans rfl))) ((st_ne (by decide)).trans ((st_ne (by decide)).trans ((st_ne (by decide)).trans rfl))) ((st_ne (by decide)).trans ((st_ne (by decide)).trans ((st_ne (by decide)).trans rfl))) ((st_ne (by decide)).trans ((st_ne (by decide)).trans ((st_ne (by decide)).trans rfl))) ((st_ne (by decide)).trans ((st_ne (by decide)).trans ((st_ne (by decide)).trans rfl))) ((st_ne (by decide)).trans ((st_ne (by decide)).trans ((st_ne (by decide)).trans rfl))) ((st_ne (by decide)).trans ((st_ne (by decide)).trans ((st_ne (by decide)).trans rfl))) ((st_ne (by decide)).trans ((st_ne (by decide)).trans ((st_ne (by decide)).trans rfl))) ((st_ne (by decide)).trans ((st_ne (by decide)).trans ((st_ne (by decide)).trans rfl))) ((st_ne (by decide)).trans ((st_ne (by decide)).trans ((st_ne (by decide)).trans rfl))) ((st_ne (by decide)).trans ((st_ne (by decide)).trans ((st_ne (by decide)).trans rfl))) ((st_ne (by decide)).trans ((st_ne (by decide)).trans ((st_ne (by decide)).trans rfl))) ((st_ne (by decide)).trans ((st_ne (by decide)).trans ((st_ne (by decide)).trans rfl))) ((st_ne (by decide)).trans ((st_ne (by decide)).trans ((st_ne (by decide)).trans rfl))) ((st_ne (by decide)).trans ((st_ne (by decide)).trans ((st_ne (by decide)).trans rfl))) ((st_ne (by decide)).trans ((st_ne (by decide)).trans ((st_ne (by decide)).trans rfl))) ((st_ne (by decide)).trans ((st_ne (by decide)).trans ((st_ne (by decide)).trans rfl))) ((st_ne (by decide)).trans ((st_ne (by decide)).trans ((st_ne (by decide)).trans rfl))) ((st_ne (by decide)).trans ((st_ne (by decide)).trans ((st_ne (by decide)).trans rfl))) ((st_ne (by decide)).trans ((st_ne (by decide)).trans ((st_ne (by decide)).trans rfl))) ((st_ne (by decide)).trans ((st_ne (by decide)).trans ((st_ne (by decide)).trans rfl))) ((st_ne (by decide)).trans ((st_ne (by decide)).trans ((st_ne (by decide)).trans rfl))) ((st_ne (by decide)).trans ((st_ne (by decide)).trans ((st_ne (by decide)).trans rfl))) ((st_ne (by decide)).trans ((st_ne (by decide)).trans ((st_ne (by decide)).trans rfl))) ((st_ne (by decide)).trans ((st_ne (by decide)).trans ((st_ne (by decide)).trans rfl))) ((st_ne (by decide)).trans ((st_ne (by decide)).trans ((st_ne (by decide)).trans rfl))) ((st_ne (by decide)).trans ((st_ne (by decide)).trans ((st_ne (by decide)).trans rfl))) ((st_ne (by decide)).trans ((st_ne (by decide)).trans ((st_ne (by decide)).trans rfl))) ((st_ne (by decide)).trans ((st_ne (by decide)).trans ((st_ne (by decide)).trans rfl))) ((st_ne (by decide)).trans ((st_ne (by decide)).trans ((st_ne (by decide)).trans rfl))) ((st_ne (by decide)).trans ((st_ne (by decide)).trans ((st_ne (by decide)).trans rfl))) ((st_ne (by decide)).trans ((st_ne (by decide)).trans ((st_ne (by decide)).trans rfl))) ((st_ne (by decide)).trans ((st_ne (by decide)).trans ((st_ne (by decide)).trans rfl))) ((st_ne (by decide)).trans ((st_ne (by decide)).trans ((st_ne (by decide)).trans rfl))) ((st_ne (by decide)).trans ((st_ne (by decide)).trans ((st_ne (by decide)).trans rfl))) ((st_ne (by decide)).trans ((st_ne (by decide)).trans ((st_ne (by decide)).trans rfl)))) gv_L_44 hv_X12_tone ⟨Nat.le_of_ble_eq_true rfl, Nat.le_of_ble_eq_true rfl⟩ hl.1 rfl (Nat.le_of_ble_eq_true rfl) ⟨Nat.le_of_ble_eq_true rfl, Nat.le_of_ble_eq_true rfl⟩ dL_law_367 (fun H locs w => ?_)
  refine lv_icmp_eq (tgt := 1065) hx hb dL_law_370 (by decide) (fun _ => ?_) (fun c1 => absurd c1 (by decide))
  exact kk _ _ _ w
set_option maxRecDepth 4000 in
theorem c_X11_isKind_127 {l : Launch} {D : va_G} {B : Nat} {cy : Nat → ClassId} {M : Mem} : Ci l D B cy yX11_isKind cX11_isKind 1 (some .boolean) 0 0 [.int 1] M (fun r M1 => r = 1 ∧ M1 = M) := by
  refine s_any (by decide) (Nat.le_of_ble_eq_true rfl) ?_
  intro p e s m below meth c ls F hr hlocks w hl
  have F : CallFix p m c cX11_isKind 1 s _ TB RX11 := F
  have hx := F.1
  have hb := F.2.1
  have hl : lv_has ls 1 [(0, .int 1)] := hl
  refine lv_iload_n hx hb dX11_isKind_0 rfl (lv_at hl 0 rfl) ?_
  refine lv_if_lt (tgt := 13) hx hb dX11_isKind_1 (by decide) (fun c1 => absurd c1 (by decide)) (fun _ => ?_)
  refine lv_iload_n hx hb dX11_isKind_4 rfl (lv_at hl 0 rfl) ?_
  refine lv_iconst (v := 2) hx hb dX11_isKind_5 (by decide) ?_
  refine lv_icmp_gt (tgt := 13) hx hb dX11_isKind_6 (by decide) (fun c1 => absurd c1 (by decide)) (fun _ => ?_)
  refine lv_iconst (v := 1) hx hb dX11_isKind_9 (by decide) ?_
  refine lv_goto (tgt := 14) hx hb dX11_isKind_10 (by decide) ?_
  exact e_z F w hr hlocks (by decide) ⟨rfl, rfl⟩ dX11_isKind_14
set_option maxRecDepth 4000 in
theorem c_X9_insertTone_128 {l : Launch} {D : va_G} {B : Nat} {cy : Nat → ClassId} {M : Mem} (h0 : M.1 44 0 = 0) (h1 : M.1 45 0 = 0) (h2 : M.1 46 0 = 0) : Cv l D B cy yX9_insertTone cX9_insertTone 4 0 0 [.ref (B + 44), .int 0, .int 1] M (fun M1 => M1 = (st (st M 45 0 1) 44 0 1)) := by
  refine s_any (by decide) (Nat.le_of_ble_eq_true rfl) ?_
  intro p e s m below meth c ls F hr hlocks w hl
  have F : CallFix p m c cX9_insertTone 4 s _ TB RX9 := F
  have hx := F.1
  have hb := F.2.1
  have hl : lv_has ls 4 [(0, .ref (B + 44)), (1, .int 0), (2, .int 1)] := hl
  refine lv_iload_n hx hb dX9_insertTone_0 rfl (lv_at hl 1 rfl) ?_
  refine lv_if_lt (tgt := 21) hx hb dX9_insertTone_1 (by decide) (fun c1 => absurd c1 (by decide)) (fun _ => ?_)
  refine lv_iload_n hx hb dX9_insertTone_4 rfl (lv_at hl 1 rfl) ?_
  refine lv_aload_n hx hb dX9_insertTone_5 rfl (lv_at hl 0 rfl) ?_
  refine f_9_0 F w (a := 44) rfl tb_63 dX9_insertTone_6 ?_
  refine r_val (v := 0) (h0) ?_
  refine lv_icmp_gt (tgt := 21) hx hb dX9_insertTone_9 (by decide) (fun c1 => absurd c1 (by decide)) (fun _ => ?_)
  refine lv_aload_n hx hb dX9_insertTone_12 rfl (lv_at hl 0 rfl) ?_
  refine f_9_0 F w (a := 44) rfl tb_63 dX9_insertTone_13 ?_
  refine r_val (v := 0) (h0) ?_
  refine lv_bipush (v := 12) hx hb dX9_insertTone_16 (by decide) ?_
  refine lv_icmp_lt (tgt := 22) hx hb dX9_insertTone_18 (by decide) (fun _ => ?_) (fun c1 => absurd c1 (by decide))
  refine lv_aload_n hx hb dX9_insertTone_22 rfl (lv_at hl 0 rfl) ?_
  refine f_9_0 F w (a := 44) rfl tb_63 dX9_insertTone_23 ?_
  refine r_val (v := 0) (h0) ?_
  refine lv_istore_n (lv' := [(3, .int 0), (0, .ref (B + 44)), (1, .int 0), (2, .int 1)]) hx hb dX9_insertTone_26 rfl hl (by decide) rfl (fun ls hl => ?_)
  refine lv_iload_n hx hb dX9_insertTone_27 rfl (lv_at hl 0 rfl) ?_
  refine lv_iload_n hx hb dX9_insertTone_28 rfl (lv_at hl 2 rfl) ?_
  refine lv_icmp_le (tgt := 66) hx hb dX9_insertTone_29 (by decide) (fun _ => ?_) (fun c1 => absurd c1 (by decide))
  refine lv_aload_n hx hb dX9_insertTone_66 rfl (lv_at hl 1 rfl) ?_
  refine f_9_4 F w (a := 44) rfl tb_67 dX9_insertTone_67 ?_
  refine lv_iload_n hx hb dX9_insertTone_70 rfl (lv_at hl 2 rfl) ?_
  refine lv_iload_n hx hb dX9_insertTone_71 rfl (lv_at hl 3 rfl) ?_
  refine g_iast F w (a := 45) rfl (j := 0) ⟨by decide, by decide⟩ (by decide) dX9_insertTone_72 (fun H locs w => ?_)
  refine lv_aload_n hx hb dX9_insertTone_73 rfl (lv_at hl 1 rfl) ?_
  refine f_9_5 F w (a := 44) rfl tb_68 dX9_insertTone_74 ?_
  refine lv_iload_n hx hb dX9_insertTone_77 rfl (lv_at hl 2 rfl) ?_
  refine lv_iconst (v := 0) hx hb dX9_insertTone_78 (by decide) ?_
  refine g_iast F w (a := 46) rfl (j := 0) ⟨by decide, by decide⟩ (by decide) dX9_insertTone_79 (fun H locs w => ?_)
  rw [st_same ((st_ne (by decide)).trans h2)] at w
  refine lv_aload_n hx hb dX9_insertTone_80 rfl (lv_at hl 1 rfl) ?_
  refine lv_dup hx hb dX9_insertTone_81 rfl ?_
  refine f_9_0 F w (a := 44) rfl tb_63 dX9_insertTone_82 ?_
  refine r_val (v := 0) ((st_ne (by decide)).trans h0) ?_
  refine lv_iconst (v := 1) hx hb dX9_insertTone_85 (by decide) ?_
  refine lv_iadd hx hb dX9_insertTone_86 ?_
  refine r_val (v := 1) (by decide) ?_
  refine u_9_0 F w (a := 44) rfl tb_63 dX9_insertTone_87 (fun H locs w => ?_)
  exact e_v F w hr hlocks rfl dX9_insertTone_90
set_option maxRecDepth 4000 in
theorem c_X11_tone_129 {l : Launch} {D : va_G} {B : Nat} {cy : Nat → ClassId} {M : Mem} (h0 : M.1 44 0 = 0) (h1 : M.1 71 1 = 0) (h2 : M.1 44 1 = 0) (h3 : M.1 73 1 = 0) (h4 : M.1 44 2 = 0) (h5 : M.1 73 2 = 0) (h6 : M.1 44 3 = 0) (h7 : M.1 73 3 = 0) (h8 : M.1 73 0 = 0) (h9 : ∀ k, k < 12 → M.1 45 k = 0) (h10 : ∀ k, k < 12 → M.1 74 k = 0) (h11 : ∀ k, k < 12 → M.1 46 k = 0) (h12 : ∀ k, k < 12 → M.1 75 k = 0) (h13 : M.1 71 2 = 0) (h14 : M.1 22 7 = 0) (h15 : M.1 109 0 = 0) (h16 : M.1 135 0 = 0) (h17 : M.1 45 0 = 0) (h18 : M.1 46 0 = 0) : Ci l D B cy yX11_tone cX11_tone 3 (some .boolean) 4 102 [.ref (B + 0), .int 0, .int 1] M (fun r M1 => r = 1 ∧ M1 = (st (st (st (st M 71 1 1) 71 2 1) 45 0 1) 44 0 1)) := by
  refine s_any (by decide) (Nat.le_of_ble_eq_true rfl) ?_
  intro p e s m below meth c ls F hr hlocks w hl
  have F : CallFix p m c cX11_tone 3 s _ TB RX11 := F
  have hx := F.1
  have hb := F.2.1
  have hl : lv_has ls 3 [(0, .ref (B + 0)), (1, .int 0), (2, .int 1)] := hl
  refine lv_iload_n hx hb dX11_tone_0 rfl (lv_at hl 1 rfl) ?_
  refine lv_if_lt (tgt := 34) hx hb dX11_tone_1 (by decide) (fun c1 => absurd c1 (by decide)) (fun _ => ?_)
  refine lv_iload_n hx hb dX11_tone_4 rfl (lv_at hl 1 rfl) ?_
  refine lv_aload_n hx hb dX11_tone_5 rfl (lv_at hl 0 rfl) ?_
  refine f_11_4 F w (a := 0) rfl tb_75 dX11_tone_6 ?_
  refine f_9_0 F w (a := 44) rfl tb_260 dX11_tone_9 ?_
  refine r_val (v := 0) (h0) ?_
  refine lv_icmp_gt (tgt := 34) hx hb dX11_tone_12 (by decide) (fun c1 => absurd c1 (by decide)) (fun _ => ?_)
  refine lv_aload_n hx hb dX11_tone_15 rfl (lv_at hl 0 rfl) ?_
  refine f_11_4 F w (a := 0) rfl tb_75 dX11_tone_16 ?_
  refine f_9_0 F w (a := 44) rfl tb_260 dX11_tone_19 ?_
  refine r_val (v := 0) (h0) ?_
  refine lv_bipush (v := 12) hx hb dX11_tone_22 (by decide) ?_
  refine lv_icmp_ge (tgt := 34) hx hb dX11_tone_24 (by decide) (fun c1 => absurd c1 (by decide)) (fun _ => ?_)
  refine lv_iload_n hx hb dX11_tone_27 rfl (lv_at hl 2 rfl) ?_
  refine x_Si F w (As := [.int 1]) (rest := []) (c_X11_isKind_127) gs_X11_133 hs_X11_isKind ⟨Nat.le_of_ble_eq_true rfl, Nat.le_of_ble_eq_true rfl⟩ hl.1 rfl (Nat.le_of_ble_eq_true rfl) ⟨Nat.zero_le _, Nat.zero_le _⟩ dX11_tone_28 (fun H locs w => ?_)
  refine lv_if_ne (tgt := 36) hx hb dX11_tone_31 (by decide) (fun _ => ?_) (fun c1 => absurd c1 (by decide))
  refine lv_aload_n hx hb dX11_tone_36 rfl (lv_at hl 0 rfl) ?_
  refine x_Vv F w (As := []) (rest := []) (a := 0) (by decide) (sh_11 rfl _ _) rfl (c_X11_beginAct_120 (h1) (h2) (h3) (h4) (h5) (h6) (h7) (h0) (h8) (fun k hk => (h9 k hk)) (fun k hk => (h10 k hk)) (fun k hk => (h11 k hk)) (fun k hk => (h12 k hk)) (h13) (h14) (h15) (h16)) gv_X11_123 hv_X11_beginAct ⟨Nat.le_of_ble_eq_true rfl, Nat.le_of_ble_eq_true rfl⟩ hl.1 rfl (Nat.le_of_ble_eq_true rfl) ⟨Nat.zero_le _, Nat.zero_le _⟩ dX11_tone_37 (fun H locs w => ?_)
  refine lv_aload_n hx hb dX11_tone_40 rfl (lv_at hl 0 rfl) ?_
  refine f_11_4 F w (a := 0) rfl tb_75 dX11_tone_41 ?_
  refine lv_iload_n hx hb dX11_tone_44 rfl (lv_at hl 1 rfl) ?_
  refine lv_iload_n hx hb dX11_tone_45 rfl (lv_at hl 2 rfl) ?_
  refine x_Vv F w (As := [.int 0, .int 1]) (rest := []) (a := 44) (by decide) (sh_9 rfl _ _) rfl (c_X9_insertTone_128 ((st_ne (by decide)).trans ((st_ne (by decide)).trans h0)) ((st_ne (by decide)).trans ((st_ne (by decide)).trans h17)) ((st_ne (by decide)).trans ((st_ne (by decide)).trans h18))) gv_X11_137 hv_X9_insertTone ⟨Nat.le_of_ble_eq_true rfl, Nat.le_of_ble_eq_true rfl⟩ hl.1 rfl (Nat.le_of_ble_eq_true rfl) ⟨Nat.zero_le _, Nat.zero_le _⟩ dX11_tone_46 (fun H locs w => ?_)
  refine lv_iconst (v := 1) hx hb dX11_tone_49 (by decide) ?_
  exact e_z F w hr hlocks (by decide) ⟨rfl, rfl⟩ dX11_tone_50
set_option maxRecDepth 4000 in
theorem c_X12_in_130 {l : Launch} {D : va_G} {B : Nat} {cy : Nat → ClassId} {M : Mem} : Ci l D B cy yX12_in cX12_in 3 (some .boolean) 0 0 [.int 1, .int 0, .int 2] M (fun r M1 => r = 1 ∧ M1 = M) := by
  refine s_any (by decide) (Nat.le_of_ble_eq_true rfl) ?_
  intro p e s m below meth c ls F hr hlocks w hl
  have F : CallFix p m c cX12_in 3 s _ TB RX12 := F
  have hx := F.1
  have hb := F.2.1
  have hl : lv_has ls 3 [(0, .int 1), (1, .int 0), (2, .int 2)] := hl
  refine lv_iload_n hx hb dX12_in_0 rfl (lv_at hl 0 rfl) ?_
  refine lv_iload_n hx hb dX12_in_1 rfl (lv_at hl 1 rfl) ?_
  refine lv_icmp_lt (tgt := 14) hx hb dX12_in_2 (by decide) (fun c1 => absurd c1 (by decide)) (fun _ => ?_)
  refine lv_iload_n hx hb dX12_in_5 rfl (lv_at hl 0 rfl) ?_
  refine lv_iload_n hx hb dX12_in_6 rfl (lv_at hl 2 rfl) ?_
  refine lv_icmp_gt (tgt := 14) hx hb dX12_in_7 (by decide) (fun c1 => absurd c1 (by decide)) (fun _ => ?_)
  refine lv_iconst (v := 1) hx hb dX12_in_10 (by decide) ?_
  refine lv_goto (tgt := 15) hx hb dX12_in_11 (by decide) ?_
  exact e_z F w hr hlocks (by decide) ⟨rfl, rfl⟩ dX12_in_15
set_option maxRecDepth 4000 in
theorem c_X12_insert_131 {l : Launch} {D : va_G} {B : Nat} {cy : Nat → ClassId} {M : Mem} (h0 : M.1 147 0 = 0) (h1 : M.1 147 1 = 0) (h2 : M.1 147 13 = 0) : Cv l D B cy yX12_insert cX12_insert 4 0 0 [.ref (B + 147), .int 0, .int 1] M (fun M1 => M1 = (st (st M 147 1 1) 147 0 1)) := by
  refine s_any (by decide) (Nat.le_of_ble_eq_true rfl) ?_
  intro p e s m below meth c ls F hr hlocks w hl
  have F : CallFix p m c cX12_insert 4 s _ TB RX12 := F
  have hx := F.1
  have hb := F.2.1
  have hl : lv_has ls 4 [(0, .ref (B + 147)), (1, .int 0), (2, .int 1)] := hl
  refine lv_aload_n hx hb dX12_insert_0 rfl (lv_at hl 0 rfl) ?_
  refine lv_iconst (v := 0) hx hb dX12_insert_1 (by decide) ?_
  refine g_iald F w (a := 147) rfl (j := 0) ⟨by decide, by decide⟩ (by decide) dX12_insert_2 ?_
  refine r_val (v := 0) (h0) ?_
  refine lv_istore_n (lv' := [(3, .int 0), (0, .ref (B + 147)), (1, .int 0), (2, .int 1)]) hx hb dX12_insert_3 rfl hl (by decide) rfl (fun ls hl => ?_)
  refine lv_iload_n hx hb dX12_insert_4 rfl (lv_at hl 0 rfl) ?_
  refine lv_iload_n hx hb dX12_insert_5 rfl (lv_at hl 2 rfl) ?_
  refine lv_icmp_le (tgt := 41) hx hb dX12_insert_6 (by decide) (fun _ => ?_) (fun c1 => absurd c1 (by decide))
  refine lv_aload_n hx hb dX12_insert_41 rfl (lv_at hl 1 rfl) ?_
  refine lv_iconst (v := 1) hx hb dX12_insert_42 (by decide) ?_
  refine lv_iload_n hx hb dX12_insert_43 rfl (lv_at hl 2 rfl) ?_
  refine lv_iadd hx hb dX12_insert_44 ?_
  refine r_val (v := 1) (by decide) ?_
  refine lv_iload_n hx hb dX12_insert_45 rfl (lv_at hl 3 rfl) ?_
  refine g_iast F w (a := 147) rfl (j := 1) ⟨by decide, by decide⟩ (by decide) dX12_insert_46 (fun H locs w => ?_)
  refine lv_aload_n hx hb dX12_insert_47 rfl (lv_at hl 1 rfl) ?_
  refine lv_bipush (v := 13) hx hb dX12_insert_48 (by decide) ?_
  refine lv_iload_n hx hb dX12_insert_50 rfl (lv_at hl 2 rfl) ?_
  refine lv_iadd hx hb dX12_insert_51 ?_
  refine r_val (v := 13) (by decide) ?_
  refine lv_iconst (v := 0) hx hb dX12_insert_52 (by decide) ?_
  refine g_iast F w (a := 147) rfl (j := 13) ⟨by decide, by decide⟩ (by decide) dX12_insert_53 (fun H locs w => ?_)
  rw [st_same ((st_ne (by decide)).trans h2)] at w
  refine lv_aload_n hx hb dX12_insert_54 rfl (lv_at hl 1 rfl) ?_
  refine lv_iconst (v := 0) hx hb dX12_insert_55 (by decide) ?_
  refine lv_dup2_11 hx hb dX12_insert_56 rfl rfl ?_
  refine g_iald F w (a := 147) rfl (j := 0) ⟨by decide, by decide⟩ (by decide) dX12_insert_57 ?_
  refine r_val (v := 0) ((st_ne (by decide)).trans h0) ?_
  refine lv_iconst (v := 1) hx hb dX12_insert_58 (by decide) ?_
  refine lv_iadd hx hb dX12_insert_59 ?_
  refine r_val (v := 1) (by decide) ?_
  refine g_iast F w (a := 147) rfl (j := 0) ⟨by decide, by decide⟩ (by decide) dX12_insert_60 (fun H locs w => ?_)
  exact e_v F w hr hlocks rfl dX12_insert_61
set_option maxRecDepth 4000 in
theorem c_X12_tone_132 {l : Launch} {D : va_G} {B : Nat} {cy : Nat → ClassId} {M : Mem} (h0 : M.1 147 0 = 0) (h1 : M.1 146 20 = 0) (h2 : M.1 155 0 = 0) (h3 : M.1 147 1 = 0) (h4 : M.1 155 1 = 0) (h5 : M.1 147 2 = 0) (h6 : M.1 155 2 = 0) (h7 : M.1 147 3 = 0) (h8 : M.1 155 3 = 0) (h9 : M.1 147 4 = 0) (h10 : M.1 155 4 = 0) (h11 : M.1 147 5 = 0) (h12 : M.1 155 5 = 0) (h13 : M.1 147 6 = 0) (h14 : M.1 155 6 = 0) (h15 : M.1 147 7 = 0) (h16 : M.1 155 7 = 0) (h17 : M.1 147 8 = 0) (h18 : M.1 155 8 = 0) (h19 : M.1 147 9 = 0) (h20 : M.1 155 9 = 0) (h21 : M.1 147 10 = 0) (h22 : M.1 155 10 = 0) (h23 : M.1 147 11 = 0) (h24 : M.1 155 11 = 0) (h25 : M.1 147 12 = 0) (h26 : M.1 155 12 = 0) (h27 : M.1 147 13 = 0) (h28 : M.1 155 13 = 0) (h29 : M.1 147 14 = 0) (h30 : M.1 155 14 = 0) (h31 : M.1 147 15 = 0) (h32 : M.1 155 15 = 0) (h33 : M.1 147 16 = 0) (h34 : M.1 155 16 = 0) (h35 : M.1 147 17 = 0) (h36 : M.1 155 17 = 0) (h37 : M.1 147 18 = 0) (h38 : M.1 155 18 = 0) (h39 : M.1 147 19 = 0) (h40 : M.1 155 19 = 0) (h41 : M.1 147 20 = 0) (h42 : M.1 155 20 = 0) (h43 : M.1 147 21 = 0) (h44 : M.1 155 21 = 0) (h45 : M.1 147 22 = 0) (h46 : M.1 155 22 = 0) (h47 : M.1 147 23 = 0) (h48 : M.1 155 23 = 0) (h49 : M.1 147 24 = 0) (h50 : M.1 155 24 = 0) (h51 : M.1 147 25 = 0) (h52 : M.1 155 25 = 0) (h53 : M.1 147 26 = 0) (h54 : M.1 155 26 = 0) (h55 : M.1 147 27 = 0) (h56 : M.1 155 27 = 0) : Ci l D B cy yX12_tone cX12_tone 3 (some .boolean) 1 23 [.ref (B + 146), .int 0, .int 1] M (fun r M1 => r = 1 ∧ M1 = (st (st (st M 146 20 1) 147 1 1) 147 0 1)) := by
  refine s_any (by decide) (Nat.le_of_ble_eq_true rfl) ?_
  intro p e s m below meth c ls F hr hlocks w hl
  have F : CallFix p m c cX12_tone 3 s _ TB RX12 := F
  have hx := F.1
  have hb := F.2.1
  have hl : lv_has ls 3 [(0, .ref (B + 146)), (1, .int 0), (2, .int 1)] := hl
  refine lv_iload_n hx hb dX12_tone_0 rfl (lv_at hl 1 rfl) ?_
  refine lv_iconst (v := 0) hx hb dX12_tone_1 (by decide) ?_
  refine lv_aload_n hx hb dX12_tone_2 rfl (lv_at hl 0 rfl) ?_
  refine f_12_1 F w (a := 146) rfl tb_126 dX12_tone_3 ?_
  refine lv_iconst (v := 0) hx hb dX12_tone_6 (by decide) ?_
  refine g_iald F w (a := 147) rfl (j := 0) ⟨by decide, by decide⟩ (by decide) dX12_tone_7 ?_
  refine r_val (v := 0) (h0) ?_
  refine x_Si F w (As := [.int 0, .int 0, .int 0]) (rest := []) (c_X12_in_69) gs_X12_55 hs_X12_in ⟨Nat.le_of_ble_eq_true rfl, Nat.le_of_ble_eq_true rfl⟩ hl.1 rfl (Nat.le_of_ble_eq_true rfl) ⟨Nat.zero_le _, Nat.zero_le _⟩ dX12_tone_8 (fun H locs w => ?_)
  refine lv_if_eq (tgt := 34) hx hb dX12_tone_11 (by decide) (fun c1 => absurd c1 (by decide)) (fun _ => ?_)
  refine lv_iload_n hx hb dX12_tone_14 rfl (lv_at hl 2 rfl) ?_
  refine lv_iconst (v := 0) hx hb dX12_tone_15 (by decide) ?_
  refine lv_iconst (v := 2) hx hb dX12_tone_16 (by decide) ?_
  refine x_Si F w (As := [.int 1, .int 0, .int 2]) (rest := []) (c_X12_in_130) gs_X12_55 hs_X12_in ⟨Nat.le_of_ble_eq_true rfl, Nat.le_of_ble_eq_true rfl⟩ hl.1 rfl (Nat.le_of_ble_eq_true rfl) ⟨Nat.zero_le _, Nat.zero_le _⟩ dX12_tone_17 (fun H locs w => ?_)
  refine lv_if_eq (tgt := 34) hx hb dX12_tone_20 (by decide) (fun c1 => absurd c1 (by decide)) (fun _ => ?_)
  refine lv_aload_n hx hb dX12_tone_23 rfl (lv_at hl 0 rfl) ?_
  refine f_12_1 F w (a := 146) rfl tb_126 dX12_tone_24 ?_
  refine lv_iconst (v := 0) hx hb dX12_tone_27 (by decide) ?_
  refine g_iald F w (a := 147) rfl (j := 0) ⟨by decide, by decide⟩ (by decide) dX12_tone_28 ?_
  refine r_val (v := 0) (h0) ?_
  refine lv_bipush (v := 12) hx hb dX12_tone_29 (by decide) ?_
  refine lv_icmp_ne (tgt := 36) hx hb dX12_tone_31 (by decide) (fun _ => ?_) (fun c1 => absurd c1 (by decide))
  refine lv_aload_n hx hb dX12_tone_36 rfl (lv_at hl 0 rfl) ?_
  refine x_Vv F w (As := []) (rest := []) (a := 146) (by decide) (sh_12 rfl _ _) rfl (c_X12_keeps_124 (h1) (h0) (h2) (h3) (h4) (h5) (h6) (h7) (h8) (h9) (h10) (h11) (h12) (h13) (h14) (h15) (h16) (h17) (h18) (h19) (h20) (h21) (h22) (h23) (h24) (h25) (h26) (h27) (h28) (h29) (h30) (h31) (h32) (h33) (h34) (h35) (h36) (h37) (h38) (h39) (h40) (h41) (h42) (h43) (h44) (h45) (h46) (h47) (h48) (h49) (h50) (h51) (h52) (h53) (h54) (h55) (h56)) gv_X12_242 hv_X12_keeps ⟨Nat.le_of_ble_eq_true rfl, Nat.le_of_ble_eq_true rfl⟩ hl.1 rfl (Nat.le_of_ble_eq_true rfl) ⟨Nat.zero_le _, Nat.zero_le _⟩ dX12_tone_37 (fun H locs w => ?_)
  refine lv_aload_n hx hb dX12_tone_40 rfl (lv_at hl 0 rfl) ?_
  refine f_12_1 F w (a := 146) rfl tb_126 dX12_tone_41 ?_
  refine lv_iload_n hx hb dX12_tone_44 rfl (lv_at hl 1 rfl) ?_
  refine lv_iload_n hx hb dX12_tone_45 rfl (lv_at hl 2 rfl) ?_
  refine x_Sv F w (As := [.ref (B + 147), .int 0, .int 1]) (rest := []) (c_X12_insert_131 ((st_ne (by decide)).trans h0) ((st_ne (by decide)).trans h3) ((st_ne (by decide)).trans h27)) gs_X12_112 hs_X12_insert ⟨Nat.le_of_ble_eq_true rfl, Nat.le_of_ble_eq_true rfl⟩ hl.1 rfl (Nat.le_of_ble_eq_true rfl) ⟨Nat.zero_le _, Nat.zero_le _⟩ dX12_tone_46 (fun H locs w => ?_)
  refine lv_iconst (v := 1) hx hb dX12_tone_49 (by decide) ?_
  exact e_z F w hr hlocks (by decide) ⟨rfl, rfl⟩ dX12_tone_50
set_option maxRecDepth 8000 in
theorem la_6_14 {p : Program} {l : Launch} {e : Env} {s : State} {m : MethodId} {below : List Frame} {meth : Method} {c : Code} {D : va_G} {B b : Nat} {cy : Nat → ClassId} {H : Heap} {locs : List Loc} {ls : Array Slot} {xs : Nat → Int32} {Q : State → Prop} (F : CallFix p m c code 4 s #[Value.ref b] TB RL) (hX : va_X b 6 xs s s.heap) (hbl : b < s.heap.size) (hbA : ¬ B ≤ b) (w : Wd D B cy s s.heap M0 H locs) (hl : lv_has ls 4 [(3, .int 0), (2, .ref (B + 146)), (1, .ref (B + 0)), (0, .ref b)]) (x1 : xs 1 = 0) (x2 : xs 2 = 1) (kk : ∀ (M1 : Mem) (H1 : Heap) (locs1 : List Loc), Wd D B cy s s.heap M1 H1 locs1 → W p l e room_1 s m #[Value.ref b] below meth c H1 locs1 159 13107 Q (F0 m 1065 ls [])) : W p l e room_1 s m #[Value.ref b] below meth c H locs 159 13107 Q (F0 m 342 ls []) := by
  have hx := F.1
  have hb := F.2.1
  refine lv_aload_n hx hb dL_law_342 rfl (lv_at hl 2 rfl) ?_
  refine lv_aload_n hx hb dL_law_343 rfl (lv_at hl 3 rfl) ?_
  refine lv_iload_n hx hb dL_law_344 rfl (lv_at hl 0 rfl) ?_
  refine lv_iconst (v := 1) hx hb dL_law_345 (by decide) ?_
  refine lv_iadd hx hb dL_law_346 ?_
  refine r_val (v := 1) (by decide) ?_
  refine va_sld hx hb hX hbl hbA w.2.2.1 (vpi (by decide) (by decide)) dL_law_347 ?_
  refine r_val (v := 0) ((congrArg xs (show (1 : Int32).toNatClampNeg = 1 by decide)).trans x1) ?_
  refine lv_aload_n hx hb dL_law_348 rfl (lv_at hl 3 rfl) ?_
  refine lv_iload_n hx hb dL_law_349 rfl (lv_at hl 0 rfl) ?_
  refine lv_iconst (v := 2) hx hb dL_law_350 (by decide) ?_
  refine lv_iadd hx hb dL_law_351 ?_
  refine r_val (v := 2) (by decide) ?_
  refine va_sld hx hb hX hbl hbA w.2.2.1 (vpi (by decide) (by decide)) dL_law_352 ?_
  refine r_val (v := 1) ((congrArg xs (show (2 : Int32).toNatClampNeg = 2 by decide)).trans x2) ?_
  refine x_Vi F w (As := [.int 0, .int 1]) (rest := []) (a := 0) (by decide) (sh_11 rfl _ _) rfl (c_X11_tone_129 (rfl) (rfl) (rfl) (rfl) (rfl) (rfl) (rfl) (rfl) (rfl) (fun k hk => ((fun k hk => rfl) k hk)) (fun k hk => ((fun k hk => rfl) k hk)) (fun k hk => ((fun k hk => rfl) k hk)) (fun k hk => ((fun k hk => rfl) k hk)) (rfl) (rfl) (rfl) (rfl) (rfl) (rfl)) gv_L_41 hv_X11_tone ⟨Nat.le_of_ble_eq_true rfl, Nat.le_of_ble_eq_true rfl⟩ hl.1 rfl (Nat.le_of_ble_eq_true rfl) ⟨Nat.le_of_ble_eq_true rfl, Nat.le_of_ble_eq_true rfl⟩ dL_law_353 (fun H locs w => ?_)
  refine lv_aload_n hx hb dL_law_356 rfl (lv_at hl 1 rfl) ?_
  refine lv_aload_n hx hb dL_law_357 rfl (lv_at hl 3 rfl) ?_
  refine lv_iload_n hx hb dL_law_358 rfl (lv_at hl 0 rfl) ?_
  refine lv_iconst (v := 1) hx hb dL_law_359 (by decide) ?_
  refine lv_iadd hx hb dL_law_360 ?_
  refine r_val (v := 1) (by decide) ?_
  refine va_sld hx hb hX hbl hbA w.2.2.1 (vpi (by decide) (by decide)) dL_law_361 ?_
  refine r_val (v := 0) ((congrArg xs (show (1 : Int32).toNatClampNeg = 1 by decide)).trans x1) ?_
  refine lv_aload_n hx hb dL_law_362 rfl (lv_at hl 3 rfl) ?_
  refine lv_iload_n hx hb dL_law_363 rfl (lv_at hl 0 rfl) ?_
  refine lv_iconst (v := 2) hx hb dL_law_364 (by decide) ?_
  refine lv_iadd hx hb dL_law_365 ?_
  refine r_val (v := 2) (by decide) ?_
  refine va_sld hx hb hX hbl hbA w.2.2.1 (vpi (by decide) (by decide)) dL_law_366 ?_
  refine r_val (v := 1) ((congrArg xs (show (2 : Int32).toNatClampNeg = 2 by decide)).trans x2) ?_
  refine x_Vi F w (As := [.int 0, .int 1]) (rest := [.int 1]) (a := 146) (by decide) (sh_12 rfl _ _) rfl (c_X12_tone_132 ((st_ne (by decide)).trans ((st_ne (by decide)).trans ((st_ne (by decide)).trans ((st_ne (by decide)).trans rfl)))) ((st_ne (by decide)).trans ((st_ne (by decide)).trans ((st_ne (by decide)).trans ((st_ne (by decide)).trans rfl)))) ((st_ne (by decide)).trans ((st_ne (by decide)).trans ((st_ne (by decide)).trans ((st_ne (by decide)).trans rfl)))) ((st_ne (by decide)).trans ((st_ne (by decide)).trans ((st_ne (by decide)).trans ((st_ne (by decide)).trans rfl)))) ((st_ne (by decide)).trans ((st_ne (by decide)).trans ((st_ne (by decide)).trans ((st_ne (by decide)).trans rfl)))) ((st_ne (by decide)).trans ((st_ne (by decide)).trans ((st_ne (by decide)).trans ((st_ne (by decide)).trans rfl)))) ((st_ne (by decide)).trans ((st_ne (by decide)).trans ((st_ne (by decide)).trans ((st_ne (by decide)).trans rfl)))) ((st_ne (by decide)).trans ((st_ne (by decide)).trans ((st_ne (by decide)).trans ((st_ne (by decide)).trans rfl)))) ((st_ne (by decide)).trans ((st_ne (by decide)).trans ((st_ne (by decide)).trans ((st_ne (by decide)).trans rfl)))) ((st_ne (by decide)).trans ((st_ne (by decide)).trans ((st_ne (by decide)).trans ((st_ne (by decide)).trans rfl)))) ((st_ne (by decide)).trans ((st_ne (by decide)).trans ((st_ne (by decide)).trans ((st_ne (by decide)).trans rfl)))) ((st_ne (by decide)).trans ((st_ne (by decide)).trans ((st_ne (by decide)).trans ((st_ne (by decide)).trans rfl)))) ((st_ne (by decide)).trans ((st_ne (by decide)).trans ((st_ne (by decide)).trans ((st_ne (by decide)).trans rfl)))) ((st_ne (by decide)).trans ((st_ne (by decide)).trans ((st_ne (by decide)).trans ((st_ne (by decide)).trans rfl)))) ((st_ne (by decide)).trans ((st_ne (by decide)).trans ((st_ne (by decide)).trans ((st_ne (by decide)).trans rfl)))) ((st_ne (by decide)).trans ((st_ne (by decide)).trans ((st_ne (by decide)).trans ((st_ne (by decide)).trans rfl)))) ((st_ne (by decide)).trans ((st_ne (by decide)).trans ((st_ne (by decide)).trans ((st_ne (by decide)).trans rfl)))) ((st_ne (by decide)).trans ((st_ne (by decide)).trans ((st_ne (by decide)).trans ((st_ne (by decide)).trans rfl)))) ((st_ne (by decide)).trans ((st_ne (by decide)).trans ((st_ne (by decide)).trans ((st_ne (by decide)).trans rfl)))) ((st_ne (by decide)).trans ((st_ne (by decide)).trans ((st_ne (by decide)).trans ((st_ne (by decide)).trans rfl)))) ((st_ne (by decide)).trans ((st_ne (by decide)).trans ((st_ne (by decide)).trans ((st_ne (by decide)).trans rfl)))) ((st_ne (by decide)).trans ((st_ne (by decide)).trans ((st_ne (by decide)).trans ((st_ne (by decide)).trans rfl)))) ((st_ne (by decide)).trans ((st_ne (by decide)).trans ((st_ne (by decide)).trans ((st_ne (by decide)).trans rfl)))) ((st_ne (by decide)).trans ((st_ne (by decide)).trans ((st_ne (by decide)).trans ((st_ne (by decide)).trans rfl)))) ((st_ne (by decide)).trans ((st_ne (by decide)).trans ((st_ne (by decide)).trans ((st_ne (by decide)).trans rfl)))) ((st_ne (by decide)).trans ((st_ne (by decide)).trans ((st_ne (by decide)).trans ((st_ne (by decide)).trans rfl)))) ((st_ne (by decide)).trans ((st_ne (by decide)).trans ((st_ne (by decide)).trans ((st_ne (by decide)).trans rfl)))) ((st_ne (by decide)).trans ((st_ne (by decide)).trans ((st_ne (by decide)).trans ((st_ne (by decide)).trans rfl)))) ((st_ne (by decide)).trans ((st_ne (by decide)).trans ((st_ne (by decide)).trans ((st_ne (by decide)).trans rfl)))) ((st_ne (by decide)).trans ((st_ne (by decide)).trans ((st_ne (by decide)).trans ((st_ne (by decide)).trans rfl)))) ((st_ne (by decide)).trans ((st_ne (by decide)).trans ((st_ne (by decide)).trans ((st_ne (by decide)).trans rfl)))) ((st_ne (by decide)).trans ((st_ne (by decide)).trans ((st_ne (by decide)).trans ((st_ne (by decide)).trans rfl)))) ((st_ne (by decide)).trans ((st_ne (by decide)).trans ((st_ne (by decide)).trans ((st_ne (by decide)).trans rfl)))) ((st_ne (by decide)).trans ((st_ne (by decide)).trans ((st_ne (by decide)).trans ((st_ne (by decide)).trans rfl)))) ((st_ne (by decide)).trans ((st_ne (by decide)).trans ((st_ne (by decide)).trans ((st_ne (by decide)).trans rfl)))) ((st_ne (by decide)).trans ((st_ne (by decide)).trans ((st_ne (by decide)).trans ((st_ne (by decide)).trans rfl)))) ((st_ne (by decide)).trans ((st_ne (by decide)).trans ((st_ne (by decide)).trans ((st_ne (by decide)).trans rfl)))) ((st_ne (by decide)).trans ((st_ne (by decide)).trans ((st_ne (by decide)).trans ((st_ne (by decide)).trans rfl)))) ((st_ne (by decide)).trans ((st_ne (by decide)).trans ((st_ne (by decide)).trans ((st_ne (by decide)).trans rfl)))) ((st_ne (by decide)).trans ((st_ne (by decide)).trans ((st_ne (by decide)).trans ((st_ne (by decide)).trans rfl)))) ((st_ne (by decide)).trans ((st_ne (by decide)).trans ((st_ne (by decide)).trans ((st_ne (by decide)).trans rfl)))) ((st_ne (by decide)).trans ((st_ne (by decide)).trans ((st_ne (by decide)).trans ((st_ne (by decide)).trans rfl)))) ((st_ne (by decide)).trans ((st_ne (by decide)).trans ((st_ne (by decide)).trans ((st_ne (by decide)).trans rfl)))) ((st_ne (by decide)).trans ((st_ne (by decide)).trans ((st_ne (by decide)).trans ((st_ne (by decide)).trans rfl)))) ((st_ne (by decide)).trans ((st_ne (by decide)).trans ((st_ne (by decide)).trans ((st_ne (by decide)).trans rfl)))) ((st_ne (by decide)).trans ((st_ne (by decide)).trans ((st_ne (by decide)).trans ((st_ne (by decide)).trans rfl)))) ((st_ne (by decide)).trans ((st_ne (by decide)).trans ((st_ne (by decide)).trans ((st_ne (by decide)).trans rfl)))) ((st_ne (by decide)).trans ((st_ne (by decide)).trans ((st_ne (by decide)).trans ((st_ne (by decide)).trans rfl)))) ((st_ne (by decide)).trans ((st_ne (by decide)).trans ((st_ne (by decide)).trans ((st_ne (by decide)).trans rfl)))) ((st_ne (by decide)).trans ((st_ne (by decide)).trans ((st_ne (by decide)).trans ((st_ne (by decide)).trans rfl)))) ((st_ne (by decide)).trans ((st_ne (by decide)).trans ((st_ne (by decide)).trans ((st_ne (by decide)).trans rfl)))) ((st_ne (by decide)).trans ((st_ne (by decide)).trans ((st_ne (by decide)).trans ((st_ne (by decide)).trans rfl)))) ((st_ne (by decide)).trans ((st_ne (by decide)).trans ((st_ne (by decide)).trans ((st_ne (by decide)).trans rfl)))) ((st_ne (by decide)).trans ((st_ne (by decide)).trans ((st_ne (by decide)).trans ((st_ne (by decide)).trans rfl)))) ((st_ne (by decide)).trans ((st_ne (by decide)).trans ((st_ne (by decide)).trans ((st_ne (by decide)).trans rfl)))) ((st_ne (by decide)).trans ((st_ne (by decide)).trans ((st_ne (by decide)).trans ((st_ne (by decide)).trans rfl)))) ((st_ne (by decide)).trans ((st_ne (by decide)).trans ((st_ne (by decide)).trans ((st_ne (by decide)).trans rfl))))) gv_L_44 hv_X12_tone ⟨Nat.le_of_ble_eq_true rfl, Nat.le_of_ble_eq_true rfl⟩ hl.1 rfl (Nat.le_of_ble_eq_true rfl) ⟨Nat.le_of_ble_eq_true rfl, Nat.le_of_ble_eq_true rfl⟩ dL_law_367 (fun H locs w => ?_)
  refine lv_icmp_eq (tgt := 1065) hx hb dL_law_370 (by decide) (fun _ => ?_) (fun c1 => absurd c1 (by decide))
  exact kk _ _ _ w
set_option maxRecDepth 4000 in
theorem c_X11_isKind_133 {l : Launch} {D : va_G} {B : Nat} {cy : Nat → ClassId} {M : Mem} : Ci l D B cy yX11_isKind cX11_isKind 1 (some .boolean) 0 0 [.int 2] M (fun r M1 => r = 1 ∧ M1 = M) := by
  refine s_any (by decide) (Nat.le_of_ble_eq_true rfl) ?_
  intro p e s m below meth c ls F hr hlocks w hl
  have F : CallFix p m c cX11_isKind 1 s _ TB RX11 := F
  have hx := F.1
  have hb := F.2.1
  have hl : lv_has ls 1 [(0, .int 2)] := hl
  refine lv_iload_n hx hb dX11_isKind_0 rfl (lv_at hl 0 rfl) ?_
  refine lv_if_lt (tgt := 13) hx hb dX11_isKind_1 (by decide) (fun c1 => absurd c1 (by decide)) (fun _ => ?_)
  refine lv_iload_n hx hb dX11_isKind_4 rfl (lv_at hl 0 rfl) ?_
  refine lv_iconst (v := 2) hx hb dX11_isKind_5 (by decide) ?_
  refine lv_icmp_gt (tgt := 13) hx hb dX11_isKind_6 (by decide) (fun c1 => absurd c1 (by decide)) (fun _ => ?_)
  refine lv_iconst (v := 1) hx hb dX11_isKind_9 (by decide) ?_
  refine lv_goto (tgt := 14) hx hb dX11_isKind_10 (by decide) ?_
  exact e_z F w hr hlocks (by decide) ⟨rfl, rfl⟩ dX11_isKind_14
set_option maxRecDepth 4000 in
theorem c_X9_insertTone_134 {l : Launch} {D : va_G} {B : Nat} {cy : Nat → ClassId} {M : Mem} (h0 : M.1 44 0 = 0) (h1 : M.1 45 0 = 0) (h2 : M.1 46 0 = 0) : Cv l D B cy yX9_insertTone cX9_insertTone 4 0 0 [.ref (B + 44), .int 0, .int 2] M (fun M1 => M1 = (st (st M 45 0 2) 44 0 1)) := by
  refine s_any (by decide) (Nat.le_of_ble_eq_true rfl) ?_
  intro p e s m below meth c ls F hr hlocks w hl
  have F : CallFix p m c cX9_insertTone 4 s _ TB RX9 := F
  have hx := F.1
  have hb := F.2.1
  have hl : lv_has ls 4 [(0, .ref (B + 44)), (1, .int 0), (2, .int 2)] := hl
  refine lv_iload_n hx hb dX9_insertTone_0 rfl (lv_at hl 1 rfl) ?_
  refine lv_if_lt (tgt := 21) hx hb dX9_insertTone_1 (by decide) (fun c1 => absurd c1 (by decide)) (fun _ => ?_)
  refine lv_iload_n hx hb dX9_insertTone_4 rfl (lv_at hl 1 rfl) ?_
  refine lv_aload_n hx hb dX9_insertTone_5 rfl (lv_at hl 0 rfl) ?_
  refine f_9_0 F w (a := 44) rfl tb_63 dX9_insertTone_6 ?_
  refine r_val (v := 0) (h0) ?_
  refine lv_icmp_gt (tgt := 21) hx hb dX9_insertTone_9 (by decide) (fun c1 => absurd c1 (by decide)) (fun _ => ?_)
  refine lv_aload_n hx hb dX9_insertTone_12 rfl (lv_at hl 0 rfl) ?_
  refine f_9_0 F w (a := 44) rfl tb_63 dX9_insertTone_13 ?_
  refine r_val (v := 0) (h0) ?_
  refine lv_bipush (v := 12) hx hb dX9_insertTone_16 (by decide) ?_
  refine lv_icmp_lt (tgt := 22) hx hb dX9_insertTone_18 (by decide) (fun _ => ?_) (fun c1 => absurd c1 (by decide))
  refine lv_aload_n hx hb dX9_insertTone_22 rfl (lv_at hl 0 rfl) ?_
  refine f_9_0 F w (a := 44) rfl tb_63 dX9_insertTone_23 ?_
  refine r_val (v := 0) (h0) ?_
  refine lv_istore_n (lv' := [(3, .int 0), (0, .ref (B + 44)), (1, .int 0), (2, .int 2)]) hx hb dX9_insertTone_26 rfl hl (by decide) rfl (fun ls hl => ?_)
  refine lv_iload_n hx hb dX9_insertTone_27 rfl (lv_at hl 0 rfl) ?_
  refine lv_iload_n hx hb dX9_insertTone_28 rfl (lv_at hl 2 rfl) ?_
  refine lv_icmp_le (tgt := 66) hx hb dX9_insertTone_29 (by decide) (fun _ => ?_) (fun c1 => absurd c1 (by decide))
  refine lv_aload_n hx hb dX9_insertTone_66 rfl (lv_at hl 1 rfl) ?_
  refine f_9_4 F w (a := 44) rfl tb_67 dX9_insertTone_67 ?_
  refine lv_iload_n hx hb dX9_insertTone_70 rfl (lv_at hl 2 rfl) ?_
  refine lv_iload_n hx hb dX9_insertTone_71 rfl (lv_at hl 3 rfl) ?_
  refine g_iast F w (a := 45) rfl (j := 0) ⟨by decide, by decide⟩ (by decide) dX9_insertTone_72 (fun H locs w => ?_)
  refine lv_aload_n hx hb dX9_insertTone_73 rfl (lv_at hl 1 rfl) ?_
  refine f_9_5 F w (a := 44) rfl tb_68 dX9_insertTone_74 ?_
  refine lv_iload_n hx hb dX9_insertTone_77 rfl (lv_at hl 2 rfl) ?_
  refine lv_iconst (v := 0) hx hb dX9_insertTone_78 (by decide) ?_
  refine g_iast F w (a := 46) rfl (j := 0) ⟨by decide, by decide⟩ (by decide) dX9_insertTone_79 (fun H locs w => ?_)
  rw [st_same ((st_ne (by decide)).trans h2)] at w
  refine lv_aload_n hx hb dX9_insertTone_80 rfl (lv_at hl 1 rfl) ?_
  refine lv_dup hx hb dX9_insertTone_81 rfl ?_
  refine f_9_0 F w (a := 44) rfl tb_63 dX9_insertTone_82 ?_
  refine r_val (v := 0) ((st_ne (by decide)).trans h0) ?_
  refine lv_iconst (v := 1) hx hb dX9_insertTone_85 (by decide) ?_
  refine lv_iadd hx hb dX9_insertTone_86 ?_
  refine r_val (v := 1) (by decide) ?_
  refine u_9_0 F w (a := 44) rfl tb_63 dX9_insertTone_87 (fun H locs w => ?_)
  exact e_v F w hr hlocks rfl dX9_insertTone_90
set_option maxRecDepth 4000 in
theorem c_X11_tone_135 {l : Launch} {D : va_G} {B : Nat} {cy : Nat → ClassId} {M : Mem} (h0 : M.1 44 0 = 0) (h1 : M.1 71 1 = 0) (h2 : M.1 44 1 = 0) (h3 : M.1 73 1 = 0) (h4 : M.1 44 2 = 0) (h5 : M.1 73 2 = 0) (h6 : M.1 44 3 = 0) (h7 : M.1 73 3 = 0) (h8 : M.1 73 0 = 0) (h9 : ∀ k, k < 12 → M.1 45 k = 0) (h10 : ∀ k, k < 12 → M.1 74 k = 0) (h11 : ∀ k, k < 12 → M.1 46 k = 0) (h12 : ∀ k, k < 12 → M.1 75 k = 0) (h13 : M.1 71 2 = 0) (h14 : M.1 22 7 = 0) (h15 : M.1 109 0 = 0) (h16 : M.1 135 0 = 0) (h17 : M.1 45 0 = 0) (h18 : M.1 46 0 = 0) : Ci l D B cy yX11_tone cX11_tone 3 (some .boolean) 4 102 [.ref (B + 0), .int 0, .int 2] M (fun r M1 => r = 1 ∧ M1 = (st (st (st (st M 71 1 1) 71 2 1) 45 0 2) 44 0 1)) := by
  refine s_any (by decide) (Nat.le_of_ble_eq_true rfl) ?_
  intro p e s m below meth c ls F hr hlocks w hl
  have F : CallFix p m c cX11_tone 3 s _ TB RX11 := F
  have hx := F.1
  have hb := F.2.1
  have hl : lv_has ls 3 [(0, .ref (B + 0)), (1, .int 0), (2, .int 2)] := hl
  refine lv_iload_n hx hb dX11_tone_0 rfl (lv_at hl 1 rfl) ?_
  refine lv_if_lt (tgt := 34) hx hb dX11_tone_1 (by decide) (fun c1 => absurd c1 (by decide)) (fun _ => ?_)
  refine lv_iload_n hx hb dX11_tone_4 rfl (lv_at hl 1 rfl) ?_
  refine lv_aload_n hx hb dX11_tone_5 rfl (lv_at hl 0 rfl) ?_
  refine f_11_4 F w (a := 0) rfl tb_75 dX11_tone_6 ?_
  refine f_9_0 F w (a := 44) rfl tb_260 dX11_tone_9 ?_
  refine r_val (v := 0) (h0) ?_
  refine lv_icmp_gt (tgt := 34) hx hb dX11_tone_12 (by decide) (fun c1 => absurd c1 (by decide)) (fun _ => ?_)
  refine lv_aload_n hx hb dX11_tone_15 rfl (lv_at hl 0 rfl) ?_
  refine f_11_4 F w (a := 0) rfl tb_75 dX11_tone_16 ?_
  refine f_9_0 F w (a := 44) rfl tb_260 dX11_tone_19 ?_
  refine r_val (v := 0) (h0) ?_
  refine lv_bipush (v := 12) hx hb dX11_tone_22 (by decide) ?_
  refine lv_icmp_ge (tgt := 34) hx hb dX11_tone_24 (by decide) (fun c1 => absurd c1 (by decide)) (fun _ => ?_)
  refine lv_iload_n hx hb dX11_tone_27 rfl (lv_at hl 2 rfl) ?_
  refine x_Si F w (As := [.int 2]) (rest := []) (c_X11_isKind_133) gs_X11_133 hs_X11_isKind ⟨Nat.le_of_ble_eq_true rfl, Nat.le_of_ble_eq_true rfl⟩ hl.1 rfl (Nat.le_of_ble_eq_true rfl) ⟨Nat.zero_le _, Nat.zero_le _⟩ dX11_tone_28 (fun H locs w => ?_)
  refine lv_if_ne (tgt := 36) hx hb dX11_tone_31 (by decide) (fun _ => ?_) (fun c1 => absurd c1 (by decide))
  refine lv_aload_n hx hb dX11_tone_36 rfl (lv_at hl 0 rfl) ?_
  refine x_Vv F w (As := []) (rest := []) (a := 0) (by decide) (sh_11 rfl _ _) rfl (c_X11_beginAct_120 (h1) (h2) (h3) (h4) (h5) (h6) (h7) (h0) (h8) (fun k hk => (h9 k hk)) (fun k hk => (h10 k hk)) (fun k hk => (h11 k hk)) (fun k hk => (h12 k hk)) (h13) (h14) (h15) (h16)) gv_X11_123 hv_X11_beginAct ⟨Nat.le_of_ble_eq_true rfl, Nat.le_of_ble_eq_true rfl⟩ hl.1 rfl (Nat.le_of_ble_eq_true rfl) ⟨Nat.zero_le _, Nat.zero_le _⟩ dX11_tone_37 (fun H locs w => ?_)
  refine lv_aload_n hx hb dX11_tone_40 rfl (lv_at hl 0 rfl) ?_
  refine f_11_4 F w (a := 0) rfl tb_75 dX11_tone_41 ?_
  refine lv_iload_n hx hb dX11_tone_44 rfl (lv_at hl 1 rfl) ?_
  refine lv_iload_n hx hb dX11_tone_45 rfl (lv_at hl 2 rfl) ?_
  refine x_Vv F w (As := [.int 0, .int 2]) (rest := []) (a := 44) (by decide) (sh_9 rfl _ _) rfl (c_X9_insertTone_134 ((st_ne (by decide)).trans ((st_ne (by decide)).trans h0)) ((st_ne (by decide)).trans ((st_ne (by decide)).trans h17)) ((st_ne (by decide)).trans ((st_ne (by decide)).trans h18))) gv_X11_137 hv_X9_insertTone ⟨Nat.le_of_ble_eq_true rfl, Nat.le_of_ble_eq_true rfl⟩ hl.1 rfl (Nat.le_of_ble_eq_true rfl) ⟨Nat.zero_le _, Nat.zero_le _⟩ dX11_tone_46 (fun H locs w => ?_)
  refine lv_iconst (v := 1) hx hb dX11_tone_49 (by decide) ?_
  exact e_z F w hr hlocks (by decide) ⟨rfl, rfl⟩ dX11_tone_50
set_option maxRecDepth 4000 in
theorem c_X12_in_136 {l : Launch} {D : va_G} {B : Nat} {cy : Nat → ClassId} {M : Mem} : Ci l D B cy yX12_in cX12_in 3 (some .boolean) 0 0 [.int 2, .int 0, .int 2] M (fun r M1 => r = 1 ∧ M1 = M) := by
  refine s_any (by decide) (Nat.le_of_ble_eq_true rfl) ?_
  intro p e s m below meth c ls F hr hlocks w hl
  have F : CallFix p m c cX12_in 3 s _ TB RX12 := F
  have hx := F.1
  have hb := F.2.1
  have hl : lv_has ls 3 [(0, .int 2), (1, .int 0), (2, .int 2)] := hl
  refine lv_iload_n hx hb dX12_in_0 rfl (lv_at hl 0 rfl) ?_
  refine lv_iload_n hx hb dX12_in_1 rfl (lv_at hl 1 rfl) ?_
  refine lv_icmp_lt (tgt := 14) hx hb dX12_in_2 (by decide) (fun c1 => absurd c1 (by decide)) (fun _ => ?_)
  refine lv_iload_n hx hb dX12_in_5 rfl (lv_at hl 0 rfl) ?_
  refine lv_iload_n hx hb dX12_in_6 rfl (lv_at hl 2 rfl) ?_
  refine lv_icmp_gt (tgt := 14) hx hb dX12_in_7 (by decide) (fun c1 => absurd c1 (by decide)) (fun _ => ?_)
  refine lv_iconst (v := 1) hx hb dX12_in_10 (by decide) ?_
  refine lv_goto (tgt := 15) hx hb dX12_in_11 (by decide) ?_
  exact e_z F w hr hlocks (by decide) ⟨rfl, rfl⟩ dX12_in_15
set_option maxRecDepth 4000 in
theorem c_X12_insert_137 {l : Launch} {D : va_G} {B : Nat} {cy : Nat → ClassId} {M : Mem} (h0 : M.1 147 0 = 0) (h1 : M.1 147 1 = 0) (h2 : M.1 147 13 = 0) : Cv l D B cy yX12_insert cX12_insert 4 0 0 [.ref (B + 147), .int 0, .int 2] M (fun M1 => M1 = (st (st M 147 1 2) 147 0 1)) := by
  refine s_any (by decide) (Nat.le_of_ble_eq_true rfl) ?_
  intro p e s m below meth c ls F hr hlocks w hl
  have F : CallFix p m c cX12_insert 4 s _ TB RX12 := F
  have hx := F.1
  have hb := F.2.1
  have hl : lv_has ls 4 [(0, .ref (B + 147)), (1, .int 0), (2, .int 2)] := hl
  refine lv_aload_n hx hb dX12_insert_0 rfl (lv_at hl 0 rfl) ?_
  refine lv_iconst (v := 0) hx hb dX12_insert_1 (by decide) ?_
  refine g_iald F w (a := 147) rfl (j := 0) ⟨by decide, by decide⟩ (by decide) dX12_insert_2 ?_
  refine r_val (v := 0) (h0) ?_
  refine lv_istore_n (lv' := [(3, .int 0), (0, .ref (B + 147)), (1, .int 0), (2, .int 2)]) hx hb dX12_insert_3 rfl hl (by decide) rfl (fun ls hl => ?_)
  refine lv_iload_n hx hb dX12_insert_4 rfl (lv_at hl 0 rfl) ?_
  refine lv_iload_n hx hb dX12_insert_5 rfl (lv_at hl 2 rfl) ?_
  refine lv_icmp_le (tgt := 41) hx hb dX12_insert_6 (by decide) (fun _ => ?_) (fun c1 => absurd c1 (by decide))
  refine lv_aload_n hx hb dX12_insert_41 rfl (lv_at hl 1 rfl) ?_
  refine lv_iconst (v := 1) hx hb dX12_insert_42 (by decide) ?_
  refine lv_iload_n hx hb dX12_insert_43 rfl (lv_at hl 2 rfl) ?_
  refine lv_iadd hx hb dX12_insert_44 ?_
  refine r_val (v := 1) (by decide) ?_
  refine lv_iload_n hx hb dX12_insert_45 rfl (lv_at hl 3 rfl) ?_
  refine g_iast F w (a := 147) rfl (j := 1) ⟨by decide, by decide⟩ (by decide) dX12_insert_46 (fun H locs w => ?_)
  refine lv_aload_n hx hb dX12_insert_47 rfl (lv_at hl 1 rfl) ?_
  refine lv_bipush (v := 13) hx hb dX12_insert_48 (by decide) ?_
  refine lv_iload_n hx hb dX12_insert_50 rfl (lv_at hl 2 rfl) ?_
  refine lv_iadd hx hb dX12_insert_51 ?_
  refine r_val (v := 13) (by decide) ?_
  refine lv_iconst (v := 0) hx hb dX12_insert_52 (by decide) ?_
  refine g_iast F w (a := 147) rfl (j := 13) ⟨by decide, by decide⟩ (by decide) dX12_insert_53 (fun H locs w => ?_)
  rw [st_same ((st_ne (by decide)).trans h2)] at w
  refine lv_aload_n hx hb dX12_insert_54 rfl (lv_at hl 1 rfl) ?_
  refine lv_iconst (v := 0) hx hb dX12_insert_55 (by decide) ?_
  refine lv_dup2_11 hx hb dX12_insert_56 rfl rfl ?_
  refine g_iald F w (a := 147) rfl (j := 0) ⟨by decide, by decide⟩ (by decide) dX12_insert_57 ?_
  refine r_val (v := 0) ((st_ne (by decide)).trans h0) ?_
  refine lv_iconst (v := 1) hx hb dX12_insert_58 (by decide) ?_
  refine lv_iadd hx hb dX12_insert_59 ?_
  refine r_val (v := 1) (by decide) ?_
  refine g_iast F w (a := 147) rfl (j := 0) ⟨by decide, by decide⟩ (by decide) dX12_insert_60 (fun H locs w => ?_)
  exact e_v F w hr hlocks rfl dX12_insert_61
set_option maxRecDepth 4000 in
theorem c_X12_tone_138 {l : Launch} {D : va_G} {B : Nat} {cy : Nat → ClassId} {M : Mem} (h0 : M.1 147 0 = 0) (h1 : M.1 146 20 = 0) (h2 : M.1 155 0 = 0) (h3 : M.1 147 1 = 0) (h4 : M.1 155 1 = 0) (h5 : M.1 147 2 = 0) (h6 : M.1 155 2 = 0) (h7 : M.1 147 3 = 0) (h8 : M.1 155 3 = 0) (h9 : M.1 147 4 = 0) (h10 : M.1 155 4 = 0) (h11 : M.1 147 5 = 0) (h12 : M.1 155 5 = 0) (h13 : M.1 147 6 = 0) (h14 : M.1 155 6 = 0) (h15 : M.1 147 7 = 0) (h16 : M.1 155 7 = 0) (h17 : M.1 147 8 = 0) (h18 : M.1 155 8 = 0) (h19 : M.1 147 9 = 0) (h20 : M.1 155 9 = 0) (h21 : M.1 147 10 = 0) (h22 : M.1 155 10 = 0) (h23 : M.1 147 11 = 0) (h24 : M.1 155 11 = 0) (h25 : M.1 147 12 = 0) (h26 : M.1 155 12 = 0) (h27 : M.1 147 13 = 0) (h28 : M.1 155 13 = 0) (h29 : M.1 147 14 = 0) (h30 : M.1 155 14 = 0) (h31 : M.1 147 15 = 0) (h32 : M.1 155 15 = 0) (h33 : M.1 147 16 = 0) (h34 : M.1 155 16 = 0) (h35 : M.1 147 17 = 0) (h36 : M.1 155 17 = 0) (h37 : M.1 147 18 = 0) (h38 : M.1 155 18 = 0) (h39 : M.1 147 19 = 0) (h40 : M.1 155 19 = 0) (h41 : M.1 147 20 = 0) (h42 : M.1 155 20 = 0) (h43 : M.1 147 21 = 0) (h44 : M.1 155 21 = 0) (h45 : M.1 147 22 = 0) (h46 : M.1 155 22 = 0) (h47 : M.1 147 23 = 0) (h48 : M.1 155 23 = 0) (h49 : M.1 147 24 = 0) (h50 : M.1 155 24 = 0) (h51 : M.1 147 25 = 0) (h52 : M.1 155 25 = 0) (h53 : M.1 147 26 = 0) (h54 : M.1 155 26 = 0) (h55 : M.1 147 27 = 0) (h56 : M.1 155 27 = 0) : Ci l D B cy yX12_tone cX12_tone 3 (some .boolean) 1 23 [.ref (B + 146), .int 0, .int 2] M (fun r M1 => r = 1 ∧ M1 = (st (st (st M 146 20 1) 147 1 2) 147 0 1)) := by
  refine s_any (by decide) (Nat.le_of_ble_eq_true rfl) ?_
  intro p e s m below meth c ls F hr hlocks w hl
  have F : CallFix p m c cX12_tone 3 s _ TB RX12 := F
  have hx := F.1
  have hb := F.2.1
  have hl : lv_has ls 3 [(0, .ref (B + 146)), (1, .int 0), (2, .int 2)] := hl
  refine lv_iload_n hx hb dX12_tone_0 rfl (lv_at hl 1 rfl) ?_
  refine lv_iconst (v := 0) hx hb dX12_tone_1 (by decide) ?_
  refine lv_aload_n hx hb dX12_tone_2 rfl (lv_at hl 0 rfl) ?_
  refine f_12_1 F w (a := 146) rfl tb_126 dX12_tone_3 ?_
  refine lv_iconst (v := 0) hx hb dX12_tone_6 (by decide) ?_
  refine g_iald F w (a := 147) rfl (j := 0) ⟨by decide, by decide⟩ (by decide) dX12_tone_7 ?_
  refine r_val (v := 0) (h0) ?_
  refine x_Si F w (As := [.int 0, .int 0, .int 0]) (rest := []) (c_X12_in_69) gs_X12_55 hs_X12_in ⟨Nat.le_of_ble_eq_true rfl, Nat.le_of_ble_eq_true rfl⟩ hl.1 rfl (Nat.le_of_ble_eq_true rfl) ⟨Nat.zero_le _, Nat.zero_le _⟩ dX12_tone_8 (fun H locs w => ?_)
  refine lv_if_eq (tgt := 34) hx hb dX12_tone_11 (by decide) (fun c1 => absurd c1 (by decide)) (fun _ => ?_)
  refine lv_iload_n hx hb dX12_tone_14 rfl (lv_at hl 2 rfl) ?_
  refine lv_iconst (v := 0) hx hb dX12_tone_15 (by decide) ?_
  refine lv_iconst (v := 2) hx hb dX12_tone_16 (by decide) ?_
  refine x_Si F w (As := [.int 2, .int 0, .int 2]) (rest := []) (c_X12_in_136) gs_X12_55 hs_X12_in ⟨Nat.le_of_ble_eq_true rfl, Nat.le_of_ble_eq_true rfl⟩ hl.1 rfl (Nat.le_of_ble_eq_true rfl) ⟨Nat.zero_le _, Nat.zero_le _⟩ dX12_tone_17 (fun H locs w => ?_)
  refine lv_if_eq (tgt := 34) hx hb dX12_tone_20 (by decide) (fun c1 => absurd c1 (by decide)) (fun _ => ?_)
  refine lv_aload_n hx hb dX12_tone_23 rfl (lv_at hl 0 rfl) ?_
  refine f_12_1 F w (a := 146) rfl tb_126 dX12_tone_24 ?_
  refine lv_iconst (v := 0) hx hb dX12_tone_27 (by decide) ?_
  refine g_iald F w (a := 147) rfl (j := 0) ⟨by decide, by decide⟩ (by decide) dX12_tone_28 ?_
  refine r_val (v := 0) (h0) ?_
  refine lv_bipush (v := 12) hx hb dX12_tone_29 (by decide) ?_
  refine lv_icmp_ne (tgt := 36) hx hb dX12_tone_31 (by decide) (fun _ => ?_) (fun c1 => absurd c1 (by decide))
  refine lv_aload_n hx hb dX12_tone_36 rfl (lv_at hl 0 rfl) ?_
  refine x_Vv F w (As := []) (rest := []) (a := 146) (by decide) (sh_12 rfl _ _) rfl (c_X12_keeps_124 (h1) (h0) (h2) (h3) (h4) (h5) (h6) (h7) (h8) (h9) (h10) (h11) (h12) (h13) (h14) (h15) (h16) (h17) (h18) (h19) (h20) (h21) (h22) (h23) (h24) (h25) (h26) (h27) (h28) (h29) (h30) (h31) (h32) (h33) (h34) (h35) (h36) (h37) (h38) (h39) (h40) (h41) (h42) (h43) (h44) (h45) (h46) (h47) (h48) (h49) (h50) (h51) (h52) (h53) (h54) (h55) (h56)) gv_X12_242 hv_X12_keeps ⟨Nat.le_of_ble_eq_true rfl, Nat.le_of_ble_eq_true rfl⟩ hl.1 rfl (Nat.le_of_ble_eq_true rfl) ⟨Nat.zero_le _, Nat.zero_le _⟩ dX12_tone_37 (fun H locs w => ?_)
  refine lv_aload_n hx hb dX12_tone_40 rfl (lv_at hl 0 rfl) ?_
  refine f_12_1 F w (a := 146) rfl tb_126 dX12_tone_41 ?_
  refine lv_iload_n hx hb dX12_tone_44 rfl (lv_at hl 1 rfl) ?_
  refine lv_iload_n hx hb dX12_tone_45 rfl (lv_at hl 2 rfl) ?_
  refine x_Sv F w (As := [.ref (B + 147), .int 0, .int 2]) (rest := []) (c_X12_insert_137 ((st_ne (by decide)).trans h0) ((st_ne (by decide)).trans h3) ((st_ne (by decide)).trans h27)) gs_X12_112 hs_X12_insert ⟨Nat.le_of_ble_eq_true rfl, Nat.le_of_ble_eq_true rfl⟩ hl.1 rfl (Nat.le_of_ble_eq_true rfl) ⟨Nat.zero_le _, Nat.zero_le _⟩ dX12_tone_46 (fun H locs w => ?_)
  refine lv_iconst (v := 1) hx hb dX12_tone_49 (by decide) ?_
  exact e_z F w hr hlocks (by decide) ⟨rfl, rfl⟩ dX12_tone_50
set_option maxRecDepth 8000 in
theorem la_6_15 {p : Program} {l : Launch} {e : Env} {s : State} {m : MethodId} {below : List Frame} {meth : Method} {c : Code} {D : va_G} {B b : Nat} {cy : Nat → ClassId} {H : Heap} {locs : List Loc} {ls : Array Slot} {xs : Nat → Int32} {Q : State → Prop} (F : CallFix p m c code 4 s #[Value.ref b] TB RL) (hX : va_X b 6 xs s s.heap) (hbl : b < s.heap.size) (hbA : ¬ B ≤ b) (w : Wd D B cy s s.heap M0 H locs) (hl : lv_has ls 4 [(3, .int 0), (2, .ref (B + 146)), (1, .ref (B + 0)), (0, .ref b)]) (x1 : xs 1 = 0) (x2 : xs 2 = 2) (kk : ∀ (M1 : Mem) (H1 : Heap) (locs1 : List Loc), Wd D B cy s s.heap M1 H1 locs1 → W p l e room_1 s m #[Value.ref b] below meth c H1 locs1 159 13107 Q (F0 m 1065 ls [])) : W p l e room_1 s m #[Value.ref b] below meth c H locs 159 13107 Q (F0 m 342 ls []) := by
  have hx := F.1
  have hb := F.2.1
  refine lv_aload_n hx hb dL_law_342 rfl (lv_at hl 2 rfl) ?_
  refine lv_aload_n hx hb dL_law_343 rfl (lv_at hl 3 rfl) ?_
  refine lv_iload_n hx hb dL_law_344 rfl (lv_at hl 0 rfl) ?_
  refine lv_iconst (v := 1) hx hb dL_law_345 (by decide) ?_
  refine lv_iadd hx hb dL_law_346 ?_
  refine r_val (v := 1) (by decide) ?_
  refine va_sld hx hb hX hbl hbA w.2.2.1 (vpi (by decide) (by decide)) dL_law_347 ?_
  refine r_val (v := 0) ((congrArg xs (show (1 : Int32).toNatClampNeg = 1 by decide)).trans x1) ?_
  refine lv_aload_n hx hb dL_law_348 rfl (lv_at hl 3 rfl) ?_
  refine lv_iload_n hx hb dL_law_349 rfl (lv_at hl 0 rfl) ?_
  refine lv_iconst (v := 2) hx hb dL_law_350 (by decide) ?_
  refine lv_iadd hx hb dL_law_351 ?_
  refine r_val (v := 2) (by decide) ?_
  refine va_sld hx hb hX hbl hbA w.2.2.1 (vpi (by decide) (by decide)) dL_law_352 ?_
  refine r_val (v := 2) ((congrArg xs (show (2 : Int32).toNatClampNeg = 2 by decide)).trans x2) ?_
  refine x_Vi F w (As := [.int 0, .int 2]) (rest := []) (a := 0) (by decide) (sh_11 rfl _ _) rfl (c_X11_tone_135 (rfl) (rfl) (rfl) (rfl) (rfl) (rfl) (rfl) (rfl) (rfl) (fun k hk => ((fun k hk => rfl) k hk)) (fun k hk => ((fun k hk => rfl) k hk)) (fun k hk => ((fun k hk => rfl) k hk)) (fun k hk => ((fun k hk => rfl) k hk)) (rfl) (rfl) (rfl) (rfl) (rfl) (rfl)) gv_L_41 hv_X11_tone ⟨Nat.le_of_ble_eq_true rfl, Nat.le_of_ble_eq_true rfl⟩ hl.1 rfl (Nat.le_of_ble_eq_true rfl) ⟨Nat.le_of_ble_eq_true rfl, Nat.le_of_ble_eq_true rfl⟩ dL_law_353 (fun H locs w => ?_)
  refine lv_aload_n hx hb dL_law_356 rfl (lv_at hl 1 rfl) ?_
  refine lv_aload_n hx hb dL_law_357 rfl (lv_at hl 3 rfl) ?_
  refine lv_iload_n hx hb dL_law_358 rfl (lv_at hl 0 rfl) ?_
  refine lv_iconst (v := 1) hx hb dL_law_359 (by decide) ?_
  refine lv_iadd hx hb dL_law_360 ?_
  refine r_val (v := 1) (by decide) ?_
  refine va_sld hx hb hX hbl hbA w.2.2.1 (vpi (by decide) (by decide)) dL_law_361 ?_
  refine r_val (v := 0) ((congrArg xs (show (1 : Int32).toNatClampNeg = 1 by decide)).trans x1) ?_
  refine lv_aload_n hx hb dL_law_362 rfl (lv_at hl 3 rfl) ?_
  refine lv_iload_n hx hb dL_law_363 rfl (lv_at hl 0 rfl) ?_
  refine lv_iconst (v := 2) hx hb dL_law_364 (by decide) ?_
  refine lv_iadd hx hb dL_law_365 ?_
  refine r_val (v := 2) (by decide) ?_
  refine va_sld hx hb hX hbl hbA w.2.2.1 (vpi (by decide) (by decide)) dL_law_366 ?_
  refine r_val (v := 2) ((congrArg xs (show (2 : Int32).toNatClampNeg = 2 by decide)).trans x2) ?_
  refine x_Vi F w (As := [.int 0, .int 2]) (rest := [.int 1]) (a := 146) (by decide) (sh_12 rfl _ _) rfl (c_X12_tone_138 ((st_ne (by decide)).trans ((st_ne (by decide)).trans ((st_ne (by decide)).trans ((st_ne (by decide)).trans rfl)))) ((st_ne (by decide)).trans ((st_ne (by decide)).trans ((st_ne (by decide)).trans ((st_ne (by decide)).trans rfl)))) ((st_ne (by decide)).trans ((st_ne (by decide)).trans ((st_ne (by decide)).trans ((st_ne (by decide)).trans rfl)))) ((st_ne (by decide)).trans ((st_ne (by decide)).trans ((st_ne (by decide)).trans ((st_ne (by decide)).trans rfl)))) ((st_ne (by decide)).trans ((st_ne (by decide)).trans ((st_ne (by decide)).trans ((st_ne (by decide)).trans rfl)))) ((st_ne (by decide)).trans ((st_ne (by decide)).trans ((st_ne (by decide)).trans ((st_ne (by decide)).trans rfl)))) ((st_ne (by decide)).trans ((st_ne (by decide)).trans ((st_ne (by decide)).trans ((st_ne (by decide)).trans rfl)))) ((st_ne (by decide)).trans ((st_ne (by decide)).trans ((st_ne (by decide)).trans ((st_ne (by decide)).trans rfl)))) ((st_ne (by decide)).trans ((st_ne (by decide)).trans ((st_ne (by decide)).trans ((st_ne (by decide)).trans rfl)))) ((st_ne (by decide)).trans ((st_ne (by decide)).trans ((st_ne (by decide)).trans ((st_ne (by decide)).trans rfl)))) ((st_ne (by decide)).trans ((st_ne (by decide)).trans ((st_ne (by decide)).trans ((st_ne (by decide)).trans rfl)))) ((st_ne (by decide)).trans ((st_ne (by decide)).trans ((st_ne (by decide)).trans ((st_ne (by decide)).trans rfl)))) ((st_ne (by decide)).trans ((st_ne (by decide)).trans ((st_ne (by decide)).trans ((st_ne (by decide)).trans rfl)))) ((st_ne (by decide)).trans ((st_ne (by decide)).trans ((st_ne (by decide)).trans ((st_ne (by decide)).trans rfl)))) ((st_ne (by decide)).trans ((st_ne (by decide)).trans ((st_ne (by decide)).trans ((st_ne (by decide)).trans rfl)))) ((st_ne (by decide)).trans ((st_ne (by decide)).trans ((st_ne (by decide)).trans ((st_ne (by decide)).trans rfl)))) ((st_ne (by decide)).trans ((st_ne (by decide)).trans ((st_ne (by decide)).trans ((st_ne (by decide)).trans rfl)))) ((st_ne (by decide)).trans ((st_ne (by decide)).trans ((st_ne (by decide)).trans ((st_ne (by decide)).trans rfl)))) ((st_ne (by decide)).trans ((st_ne (by decide)).trans ((st_ne (by decide)).trans ((st_ne (by decide)).trans rfl)))) ((st_ne (by decide)).trans ((st_ne (by decide)).trans ((st_ne (by decide)).trans ((st_ne (by decide)).trans rfl)))) ((st_ne (by decide)).trans ((st_ne (by decide)).trans ((st_ne (by decide)).trans ((st_ne (by decide)).trans rfl)))) ((st_ne (by decide)).trans ((st_ne (by decide)).trans ((st_ne (by decide)).trans ((st_ne (by decide)).trans rfl)))) ((st_ne (by decide)).trans ((st_ne (by decide)).trans ((st_ne (by decide)).trans ((st_ne (by decide)).trans rfl)))) ((st_ne (by decide)).trans ((st_ne (by decide)).trans ((st_ne (by decide)).trans ((st_ne (by decide)).trans rfl)))) ((st_ne (by decide)).trans ((st_ne (by decide)).trans ((st_ne (by decide)).trans ((st_ne (by decide)).trans rfl)))) ((st_ne (by decide)).trans ((st_ne (by decide)).trans ((st_ne (by decide)).trans ((st_ne (by decide)).trans rfl)))) ((st_ne (by decide)).trans ((st_ne (by decide)).trans ((st_ne (by decide)).trans ((st_ne (by decide)).trans rfl)))) ((st_ne (by decide)).trans ((st_ne (by decide)).trans ((st_ne (by decide)).trans ((st_ne (by decide)).trans rfl)))) ((st_ne (by decide)).trans ((st_ne (by decide)).trans ((st_ne (by decide)).trans ((st_ne (by decide)).trans rfl)))) ((st_ne (by decide)).trans ((st_ne (by decide)).trans ((st_ne (by decide)).trans ((st_ne (by decide)).trans rfl)))) ((st_ne (by decide)).trans ((st_ne (by decide)).trans ((st_ne (by decide)).trans ((st_ne (by decide)).trans rfl)))) ((st_ne (by decide)).trans ((st_ne (by decide)).trans ((st_ne (by decide)).trans ((st_ne (by decide)).trans rfl)))) ((st_ne (by decide)).trans ((st_ne (by decide)).trans ((st_ne (by decide)).trans ((st_ne (by decide)).trans rfl)))) ((st_ne (by decide)).trans ((st_ne (by decide)).trans ((st_ne (by decide)).trans ((st_ne (by decide)).trans rfl)))) ((st_ne (by decide)).trans ((st_ne (by decide)).trans ((st_ne (by decide)).trans ((st_ne (by decide)).trans rfl)))) ((st_ne (by decide)).trans ((st_ne (by decide)).trans ((st_ne (by decide)).trans ((st_ne (by decide)).trans rfl)))) ((st_ne (by decide)).trans ((st_ne (by decide)).trans ((st_ne (by decide)).trans ((st_ne (by decide)).trans rfl)))) ((st_ne (by decide)).trans ((st_ne (by decide)).trans ((st_ne (by decide)).trans ((st_ne (by decide)).trans rfl)))) ((st_ne (by decide)).trans ((st_ne (by decide)).trans ((st_ne (by decide)).trans ((st_ne (by decide)).trans rfl)))) ((st_ne (by decide)).trans ((st_ne (by decide)).trans ((st_ne (by decide)).trans ((st_ne (by decide)).trans rfl)))) ((st_ne (by decide)).trans ((st_ne (by decide)).trans ((st_ne (by decide)).trans ((st_ne (by decide)).trans rfl)))) ((st_ne (by decide)).trans ((st_ne (by decide)).trans ((st_ne (by decide)).trans ((st_ne (by decide)).trans rfl)))) ((st_ne (by decide)).trans ((st_ne (by decide)).trans ((st_ne (by decide)).trans ((st_ne (by decide)).trans rfl)))) ((st_ne (by decide)).trans ((st_ne (by decide)).trans ((st_ne (by decide)).trans ((st_ne (by decide)).trans rfl)))) ((st_ne (by decide)).trans ((st_ne (by decide)).trans ((st_ne (by decide)).trans ((st_ne (by decide)).trans rfl)))) ((st_ne (by decide)).trans ((st_ne (by decide)).trans ((st_ne (by decide)).trans ((st_ne (by decide)).trans rfl)))) ((st_ne (by decide)).trans ((st_ne (by decide)).trans ((st_ne (by decide)).trans ((st_ne (by decide)).trans rfl)))) ((st_ne (by decide)).trans ((st_ne (by decide)).trans ((st_ne (by decide)).trans ((st_ne (by decide)).trans rfl)))) ((st_ne (by decide)).trans ((st_ne (by decide)).trans ((st_ne (by decide)).trans ((st_ne (by decide)).trans rfl)))) ((st_ne (by decide)).trans ((st_ne (by decide)).trans ((st_ne (by decide)).trans ((st_ne (by decide)).trans rfl)))) ((st_ne (by decide)).trans ((st_ne (by decide)).trans ((st_ne (by decide)).trans ((st_ne (by decide)).trans rfl)))) ((st_ne (by decide)).trans ((st_ne (by decide)).trans ((st_ne (by decide)).trans ((st_ne (by decide)).trans rfl)))) ((st_ne (by decide)).trans ((st_ne (by decide)).trans ((st_ne (by decide)).trans ((st_ne (by decide)).trans rfl)))) ((st_ne (by decide)).trans ((st_ne (by decide)).trans ((st_ne (by decide)).trans ((st_ne (by decide)).trans rfl)))) ((st_ne (by decide)).trans ((st_ne (by decide)).trans ((st_ne (by decide)).trans ((st_ne (by decide)).trans rfl)))) ((st_ne (by decide)).trans ((st_ne (by decide)).trans ((st_ne (by decide)).trans ((st_ne (by decide)).trans rfl)))) ((st_ne (by decide)).trans ((st_ne (by decide)).trans ((st_ne (by decide)).trans ((st_ne (by decide)).trans rfl))))) gv_L_44 hv_X12_tone ⟨Nat.le_of_ble_eq_true rfl, Nat.le_of_ble_eq_true rfl⟩ hl.1 rfl (Nat.le_of_ble_eq_true rfl) ⟨Nat.le_of_ble_eq_true rfl, Nat.le_of_ble_eq_true rfl⟩ dL_law_367 (fun H locs w => ?_)
  refine lv_icmp_eq (tgt := 1065) hx hb dL_law_370 (by decide) (fun _ => ?_) (fun c1 => absurd c1 (by decide))
  exact kk _ _ _ w
set_option maxRecDepth 4000 in
theorem c_X11_isKind_139 {l : Launch} {D : va_G} {B : Nat} {cy : Nat → ClassId} {M : Mem} {p0 : Int32} (h0 : ¬ p0 < 0) (h1 : 2 < p0) : Ci l D B cy yX11_isKind cX11_isKind 1 (some .boolean) 0 0 [.int p0] M (fun r M1 => r = 0 ∧ M1 = M) := by
  refine s_any (by decide) (Nat.le_of_ble_eq_true rfl) ?_
  intro p e s m below meth c ls F hr hlocks w hl
  have F : CallFix p m c cX11_isKind 1 s _ TB RX11 := F
  have hx := F.1
  have hb := F.2.1
  have hl : lv_has ls 1 [(0, .int p0)] := hl
  refine lv_iload_n hx hb dX11_isKind_0 rfl (lv_at hl 0 rfl) ?_
  refine lv_if_lt (tgt := 13) hx hb dX11_isKind_1 (by decide) (fun c1 => absurd c1 h0) (fun _ => ?_)
  refine lv_iload_n hx hb dX11_isKind_4 rfl (lv_at hl 0 rfl) ?_
  refine lv_iconst (v := 2) hx hb dX11_isKind_5 (by decide) ?_
  refine lv_icmp_gt (tgt := 13) hx hb dX11_isKind_6 (by decide) (fun _ => ?_) (fun c1 => absurd h1 c1)
  refine lv_iconst (v := 0) hx hb dX11_isKind_13 (by decide) ?_
  exact e_z F w hr hlocks (by decide) ⟨rfl, rfl⟩ dX11_isKind_14
set_option maxRecDepth 4000 in
theorem c_X11_tone_140 {l : Launch} {D : va_G} {B : Nat} {cy : Nat → ClassId} {M : Mem} {p2 : Int32} (h0 : M.1 44 0 = 0) (h1 : ¬ p2 < 0) (h2 : 2 < p2) : Ci l D B cy yX11_tone cX11_tone 3 (some .boolean) 1 20 [.ref (B + 0), .int 0, .int p2] M (fun r M1 => r = 0 ∧ M1 = M) := by
  refine s_any (by decide) (Nat.le_of_ble_eq_true rfl) ?_
  intro p e s m below meth c ls F hr hlocks w hl
  have F : CallFix p m c cX11_tone 3 s _ TB RX11 := F
  have hx := F.1
  have hb := F.2.1
  have hl : lv_has ls 3 [(0, .ref (B + 0)), (1, .int 0), (2, .int p2)] := hl
  refine lv_iload_n hx hb dX11_tone_0 rfl (lv_at hl 1 rfl) ?_
  refine lv_if_lt (tgt := 34) hx hb dX11_tone_1 (by decide) (fun c1 => absurd c1 (by decide)) (fun _ => ?_)
  refine lv_iload_n hx hb dX11_tone_4 rfl (lv_at hl 1 rfl) ?_
  refine lv_aload_n hx hb dX11_tone_5 rfl (lv_at hl 0 rfl) ?_
  refine f_11_4 F w (a := 0) rfl tb_75 dX11_tone_6 ?_
  refine f_9_0 F w (a := 44) rfl tb_260 dX11_tone_9 ?_
  refine r_val (v := 0) (h0) ?_
  refine lv_icmp_gt (tgt := 34) hx hb dX11_tone_12 (by decide) (fun c1 => absurd c1 (by decide)) (fun _ => ?_)
  refine lv_aload_n hx hb dX11_tone_15 rfl (lv_at hl 0 rfl) ?_
  refine f_11_4 F w (a := 0) rfl tb_75 dX11_tone_16 ?_
  refine f_9_0 F w (a := 44) rfl tb_260 dX11_tone_19 ?_
  refine r_val (v := 0) (h0) ?_
  refine lv_bipush (v := 12) hx hb dX11_tone_22 (by decide) ?_
  refine lv_icmp_ge (tgt := 34) hx hb dX11_tone_24 (by decide) (fun c1 => absurd c1 (by decide)) (fun _ => ?_)
  refine lv_iload_n hx hb dX11_tone_27 rfl (lv_at hl 2 rfl) ?_
  refine x_Si F w (As := [.int p2]) (rest := []) (c_X11_isKind_139 h1 h2) gs_X11_133 hs_X11_isKind ⟨Nat.le_of_ble_eq_true rfl, Nat.le_of_ble_eq_true rfl⟩ hl.1 rfl (Nat.le_of_ble_eq_true rfl) ⟨Nat.zero_le _, Nat.zero_le _⟩ dX11_tone_28 (fun H locs w => ?_)
  refine lv_if_ne (tgt := 36) hx hb dX11_tone_31 (by decide) (fun c1 => absurd c1 (by decide)) (fun _ => ?_)
  refine lv_iconst (v := 0) hx hb dX11_tone_34 (by decide) ?_
  exact e_z F w hr hlocks (by decide) ⟨rfl, rfl⟩ dX11_tone_35
set_option maxRecDepth 4000 in
theorem c_X12_in_141 {l : Launch} {D : va_G} {B : Nat} {cy : Nat → ClassId} {M : Mem} {p0 : Int32} (h0 : ¬ p0 < 0) (h1 : 2 < p0) : Ci l D B cy yX12_in cX12_in 3 (some .boolean) 0 0 [.int p0, .int 0, .int 2] M (fun r M1 => r = 0 ∧ M1 = M) := by
  refine s_any (by decide) (Nat.le_of_ble_eq_true rfl) ?_
  intro p e s m below meth c ls F hr hlocks w hl
  have F : CallFix p m c cX12_in 3 s _ TB RX12 := F
  have hx := F.1
  have hb := F.2.1
  have hl : lv_has ls 3 [(0, .int p0), (1, .int 0), (2, .int 2)] := hl
  refine lv_iload_n hx hb dX12_in_0 rfl (lv_at hl 0 rfl) ?_
  refine lv_iload_n hx hb dX12_in_1 rfl (lv_at hl 1 rfl) ?_
  refine lv_icmp_lt (tgt := 14) hx hb dX12_in_2 (by decide) (fun c1 => absurd c1 h0) (fun _ => ?_)
  refine lv_iload_n hx hb dX12_in_5 rfl (lv_at hl 0 rfl) ?_
  refine lv_iload_n hx hb dX12_in_6 rfl (lv_at hl 2 rfl) ?_
  refine lv_icmp_gt (tgt := 14) hx hb dX12_in_7 (by decide) (fun _ => ?_) (fun c1 => absurd h1 c1)
  refine lv_iconst (v := 0) hx hb dX12_in_14 (by decide) ?_
  exact e_z F w hr hlocks (by decide) ⟨rfl, rfl⟩ dX12_in_15
set_option maxRecDepth 4000 in
theorem c_X12_tone_142 {l : Launch} {D : va_G} {B : Nat} {cy : Nat → ClassId} {M : Mem} {p2 : Int32} (h0 : M.1 147 0 = 0) (h1 : ¬ p2 < 0) (h2 : 2 < p2) : Ci l D B cy yX12_tone cX12_tone 3 (some .boolean) 1 22 [.ref (B + 146), .int 0, .int p2] M (fun r M1 => r = 0 ∧ M1 = M) := by
  refine s_any (by decide) (Nat.le_of_ble_eq_true rfl) ?_
  intro p e s m below meth c ls F hr hlocks w hl
  have F : CallFix p m c cX12_tone 3 s _ TB RX12 := F
  have hx := F.1
  have hb := F.2.1
  have hl : lv_has ls 3 [(0, .ref (B + 146)), (1, .int 0), (2, .int p2)] := hl
  refine lv_iload_n hx hb dX12_tone_0 rfl (lv_at hl 1 rfl) ?_
  refine lv_iconst (v := 0) hx hb dX12_tone_1 (by decide) ?_
  refine lv_aload_n hx hb dX12_tone_2 rfl (lv_at hl 0 rfl) ?_
  refine f_12_1 F w (a := 146) rfl tb_126 dX12_tone_3 ?_
  refine lv_iconst (v := 0) hx hb dX12_tone_6 (by decide) ?_
  refine g_iald F w (a := 147) rfl (j := 0) ⟨by decide, by decide⟩ (by decide) dX12_tone_7 ?_
  refine r_val (v := 0) (h0) ?_
  refine x_Si F w (As := [.int 0, .int 0, .int 0]) (rest := []) (c_X12_in_69) gs_X12_55 hs_X12_in ⟨Nat.le_of_ble_eq_true rfl, Nat.le_of_ble_eq_true rfl⟩ hl.1 rfl (Nat.le_of_ble_eq_true rfl) ⟨Nat.zero_le _, Nat.zero_le _⟩ dX12_tone_8 (fun H locs w => ?_)
  refine lv_if_eq (tgt := 34) hx hb dX12_tone_11 (by decide) (fun c1 => absurd c1 (by decide)) (fun _ => ?_)
  refine lv_iload_n hx hb dX12_tone_14 rfl (lv_at hl 2 rfl) ?_
  refine lv_iconst (v := 0) hx hb dX12_tone_15 (by decide) ?_
  refine lv_iconst (v := 2) hx hb dX12_tone_16 (by decide) ?_
  refine x_Si F w (As := [.int p2, .int 0, .int 2]) (rest := []) (c_X12_in_141 h1 h2) gs_X12_55 hs_X12_in ⟨Nat.le_of_ble_eq_true rfl, Nat.le_of_ble_eq_true rfl⟩ hl.1 rfl (Nat.le_of_ble_eq_true rfl) ⟨Nat.zero_le _, Nat.zero_le _⟩ dX12_tone_17 (fun H locs w => ?_)
  refine lv_if_eq (tgt := 34) hx hb dX12_tone_20 (by decide) (fun _ => ?_) (fun c1 => absurd c1 (by decide))
  refine lv_iconst (v := 0) hx hb dX12_tone_34 (by decide) ?_
  exact e_z F w hr hlocks (by decide) ⟨rfl, rfl⟩ dX12_tone_35
set_option maxRecDepth 8000 in
theorem la_6_16 {p : Program} {l : Launch} {e : Env} {s : State} {m : MethodId} {below : List Frame} {meth : Method} {c : Code} {D : va_G} {B b : Nat} {cy : Nat → ClassId} {H : Heap} {locs : List Loc} {ls : Array Slot} {xs : Nat → Int32} {Q : State → Prop} (F : CallFix p m c code 4 s #[Value.ref b] TB RL) (hX : va_X b 6 xs s s.heap) (hbl : b < s.heap.size) (hbA : ¬ B ≤ b) (w : Wd D B cy s s.heap M0 H locs) (hl : lv_has ls 4 [(3, .int 0), (2, .ref (B + 146)), (1, .ref (B + 0)), (0, .ref b)]) (x1 : xs 1 = 0) (h0 : ¬ (xs 2) < 0) (h1 : 2 < (xs 2)) (kk : ∀ (M1 : Mem) (H1 : Heap) (locs1 : List Loc), Wd D B cy s s.heap M1 H1 locs1 → W p l e room_1 s m #[Value.ref b] below meth c H1 locs1 159 13107 Q (F0 m 1065 ls [])) : W p l e room_1 s m #[Value.ref b] below meth c H locs 159 13107 Q (F0 m 342 ls []) := by
  have hx := F.1
  have hb := F.2.1
  refine lv_aload_n hx hb dL_law_342 rfl (lv_at hl 2 rfl) ?_
  refine lv_aload_n hx hb dL_law_343 rfl (lv_at hl 3 rfl) ?_
  refine lv_iload_n hx hb dL_law_344 rfl (lv_at hl 0 rfl) ?_
  refine lv_iconst (v := 1) hx hb dL_law_345 (by decide) ?_
  refine lv_iadd hx hb dL_law_346 ?_
  refine r_val (v := 1) (by decide) ?_
  refine va_sld hx hb hX hbl hbA w.2.2.1 (vpi (by decide) (by decide)) dL_law_347 ?_
  refine r_val (v := 0) ((congrArg xs (show (1 : Int32).toNatClampNeg = 1 by decide)).trans x1) ?_
  refine lv_aload_n hx hb dL_law_348 rfl (lv_at hl 3 rfl) ?_
  refine lv_iload_n hx hb dL_law_349 rfl (lv_at hl 0 rfl) ?_
  refine lv_iconst (v := 2) hx hb dL_law_350 (by decide) ?_
  refine lv_iadd hx hb dL_law_351 ?_
  refine r_val (v := 2) (by decide) ?_
  refine va_sld hx hb hX hbl hbA w.2.2.1 (vpi (by decide) (by decide)) dL_law_352 ?_
  refine r_val (v := xs 2) (congrArg xs (show (2 : Int32).toNatClampNeg = 2 by decide)) ?_
  refine x_Vi F w (As := [.int 0, .int (xs 2)]) (rest := []) (a := 0) (by decide) (sh_11 rfl _ _) rfl (c_X11_tone_140 (rfl) h0 h1) gv_L_41 hv_X11_tone ⟨Nat.le_of_ble_eq_true rfl, Nat.le_of_ble_eq_true rfl⟩ hl.1 rfl (Nat.le_of_ble_eq_true rfl) ⟨Nat.le_of_ble_eq_true rfl, Nat.le_of_ble_eq_true rfl⟩ dL_law_353 (fun H locs w => ?_)
  refine lv_aload_n hx hb dL_law_356 rfl (lv_at hl 1 rfl) ?_
  refine lv_aload_n hx hb dL_law_357 rfl (lv_at hl 3 rfl) ?_
  refine lv_iload_n hx hb dL_law_358 rfl (lv_at hl 0 rfl) ?_
  refine lv_iconst (v := 1) hx hb dL_law_359 (by decide) ?_
  refine lv_iadd hx hb dL_law_360 ?_
  refine r_val (v := 1) (by decide) ?_
  refine va_sld hx hb hX hbl hbA w.2.2.1 (vpi (by decide) (by decide)) dL_law_361 ?_
  refine r_val (v := 0) ((congrArg xs (show (1 : Int32).toNatClampNeg = 1 by decide)).trans x1) ?_
  refine lv_aload_n hx hb dL_law_362 rfl (lv_at hl 3 rfl) ?_
  refine lv_iload_n hx hb dL_law_363 rfl (lv_at hl 0 rfl) ?_
  refine lv_iconst (v := 2) hx hb dL_law_364 (by decide) ?_
  refine lv_iadd hx hb dL_law_365 ?_
  refine r_val (v := 2) (by decide) ?_
  refine va_sld hx hb hX hbl hbA w.2.2.1 (vpi (by decide) (by decide)) dL_law_366 ?_
  refine r_val (v := xs 2) (congrArg xs (show (2 : Int32).toNatClampNeg = 2 by decide)) ?_
  refine x_Vi F w (As := [.int 0, .int (xs 2)]) (rest := [.int 0]) (a := 146) (by decide) (sh_12 rfl _ _) rfl (c_X12_tone_142 (rfl) h0 h1) gv_L_44 hv_X12_tone ⟨Nat.le_of_ble_eq_true rfl, Nat.le_of_ble_eq_true rfl⟩ hl.1 rfl (Nat.le_of_ble_eq_true rfl) ⟨Nat.le_of_ble_eq_true rfl, Nat.le_of_ble_eq_true rfl⟩ dL_law_367 (fun H locs w => ?_)
  refine lv_icmp_eq (tgt := 1065) hx hb dL_law_370 (by decide) (fun _ => ?_) (fun c1 => absurd c1 (by decide))
  exact kk _ _ _ w
set_option maxRecDepth 4000 in
theorem c_X11_tone_143 {l : Launch} {D : va_G} {B : Nat} {cy : Nat → ClassId} {M : Mem} {p1 : Int32} {p2 : Int32} (h0 : ¬ p1 < 0) (h1 : M.1 44 0 = 0) (h2 : 0 < p1) : Ci l D B cy yX11_tone cX11_tone 3 (some .boolean) 0 0 [.ref (B + 0), .int p1, .int p2] M (fun r M1 => r = 0 ∧ M1 = M) := by
  refine s_any (by decide) (Nat.le_of_ble_eq_true rfl) ?_
  intro p e s m below meth c ls F hr hlocks w hl
  have F : CallFix p m c cX11_tone 3 s _ TB RX11 := F
  have hx := F.1
  have hb := F.2.1
  have hl : lv_has ls 3 [(0, .ref (B + 0)), (1, .int p1), (2, .int p2)] := hl
  refine lv_iload_n hx hb dX11_tone_0 rfl (lv_at hl 1 rfl) ?_
  refine lv_if_lt (tgt := 34) hx hb dX11_tone_1 (by decide) (fun c1 => absurd c1 h0) (fun _ => ?_)
  refine lv_iload_n hx hb dX11_tone_4 rfl (lv_at hl 1 rfl) ?_
  refine lv_aload_n hx hb dX11_tone_5 rfl (lv_at hl 0 rfl) ?_
  refine f_11_4 F w (a := 0) rfl tb_75 dX11_tone_6 ?_
  refine f_9_0 F w (a := 44) rfl tb_260 dX11_tone_9 ?_
  refine r_val (v := 0) (h1) ?_
  refine lv_icmp_gt (tgt := 34) hx hb dX11_tone_12 (by decide) (fun _ => ?_) (fun c1 => absurd h2 c1)
  refine lv_iconst (v := 0) hx hb dX11_tone_34 (by decide) ?_
  exact e_z F w hr hlocks (by decide) ⟨rfl, rfl⟩ dX11_tone_35
set_option maxRecDepth 4000 in
theorem c_X12_tone_144 {l : Launch} {D : va_G} {B : Nat} {cy : Nat → ClassId} {M : Mem} {p1 : Int32} {p2 : Int32} (h0 : M.1 147 0 = 0) (h1 : ¬ p1 < 0) (h2 : 0 < p1) : Ci l D B cy yX12_tone cX12_tone 3 (some .boolean) 1 22 [.ref (B + 146), .int p1, .int p2] M (fun r M1 => r = 0 ∧ M1 = M) := by
  refine s_any (by decide) (Nat.le_of_ble_eq_true rfl) ?_
  intro p e s m below meth c ls F hr hlocks w hl
  have F : CallFix p m c cX12_tone 3 s _ TB RX12 := F
  have hx := F.1
  have hb := F.2.1
  have hl : lv_has ls 3 [(0, .ref (B + 146)), (1, .int p1), (2, .int p2)] := hl
  refine lv_iload_n hx hb dX12_tone_0 rfl (lv_at hl 1 rfl) ?_
  refine lv_iconst (v := 0) hx hb dX12_tone_1 (by decide) ?_
  refine lv_aload_n hx hb dX12_tone_2 rfl (lv_at hl 0 rfl) ?_
  refine f_12_1 F w (a := 146) rfl tb_126 dX12_tone_3 ?_
  refine lv_iconst (v := 0) hx hb dX12_tone_6 (by decide) ?_
  refine g_iald F w (a := 147) rfl (j := 0) ⟨by decide, by decide⟩ (by decide) dX12_tone_7 ?_
  refine r_val (v := 0) (h0) ?_
  refine x_Si F w (As := [.int p1, .int 0, .int 0]) (rest := []) (c_X12_in_72 h1 h2) gs_X12_55 hs_X12_in ⟨Nat.le_of_ble_eq_true rfl, Nat.le_of_ble_eq_true rfl⟩ hl.1 rfl (Nat.le_of_ble_eq_true rfl) ⟨Nat.zero_le _, Nat.zero_le _⟩ dX12_tone_8 (fun H locs w => ?_)
  refine lv_if_eq (tgt := 34) hx hb dX12_tone_11 (by decide) (fun _ => ?_) (fun c1 => absurd c1 (by decide))
  refine lv_iconst (v := 0) hx hb dX12_tone_34 (by decide) ?_
  exact e_z F w hr hlocks (by decide) ⟨rfl, rfl⟩ dX12_tone_35
set_option maxRecDepth 8000 in
theorem la_6_17 {p : Program} {l : Launch} {e : Env} {s : State} {m : MethodId} {below : List Frame} {meth : Method} {c : Code} {D : va_G} {B b : Nat} {cy : Nat → ClassId} {H : Heap} {locs : List Loc} {ls : Array Slot} {xs : Nat → Int32} {Q : State → Prop} (F : CallFix p m c code 4 s #[Value.ref b] TB RL) (hX : va_X b 6 xs s s.heap) (hbl : b < s.heap.size) (hbA : ¬ B ≤ b) (w : Wd D B cy s s.heap M0 H locs) (hl : lv_has ls 4 [(3, .int 0), (2, .ref (B + 146)), (1, .ref (B + 0)), (0, .ref b)]) (h0 : ¬ (xs 1) < 0) (h1 : 0 < (xs 1)) (kk : ∀ (M1 : Mem) (H1 : Heap) (locs1 : List Loc), Wd D B cy s s.heap M1 H1 locs1 → W p l e room_1 s m #[Value.ref b] below meth c H1 locs1 159 13107 Q (F0 m 1065 ls [])) : W p l e room_1 s m #[Value.ref b] below meth c H locs 159 13107 Q (F0 m 342 ls []) := by
  have hx := F.1
  have hb := F.2.1
  refine lv_aload_n hx hb dL_law_342 rfl (lv_at hl 2 rfl) ?_
  refine lv_aload_n hx hb dL_law_343 rfl (lv_at hl 3 rfl) ?_
  refine lv_iload_n hx hb dL_law_344 rfl (lv_at hl 0 rfl) ?_
  refine lv_iconst (v := 1) hx hb dL_law_345 (by decide) ?_
  refine lv_iadd hx hb dL_law_346 ?_
  refine r_val (v := 1) (by decide) ?_
  refine va_sld hx hb hX hbl hbA w.2.2.1 (vpi (by decide) (by decide)) dL_law_347 ?_
  refine r_val (v := xs 1) (congrArg xs (show (1 : Int32).toNatClampNeg = 1 by decide)) ?_
  refine lv_aload_n hx hb dL_law_348 rfl (lv_at hl 3 rfl) ?_
  refine lv_iload_n hx hb dL_law_349 rfl (lv_at hl 0 rfl) ?_
  refine lv_iconst (v := 2) hx hb dL_law_350 (by decide) ?_
  refine lv_iadd hx hb dL_law_351 ?_
  refine r_val (v := 2) (by decide) ?_
  refine va_sld hx hb hX hbl hbA w.2.2.1 (vpi (by decide) (by decide)) dL_law_352 ?_
  refine r_val (v := xs 2) (congrArg xs (show (2 : Int32).toNatClampNeg = 2 by decide)) ?_
  refine x_Vi F w (As := [.int (xs 1), .int (xs 2)]) (rest := []) (a := 0) (by decide) (sh_11 rfl _ _) rfl (c_X11_tone_143 h0 (rfl) h1) gv_L_41 hv_X11_tone ⟨Nat.le_of_ble_eq_true rfl, Nat.le_of_ble_eq_true rfl⟩ hl.1 rfl (Nat.le_of_ble_eq_true rfl) ⟨Nat.le_of_ble_eq_true rfl, Nat.le_of_ble_eq_true rfl⟩ dL_law_353 (fun H locs w => ?_)
  refine lv_aload_n hx hb dL_law_356 rfl (lv_at hl 1 rfl) ?_
  refine lv_aload_n hx hb dL_law_357 rfl (lv_at hl 3 rfl) ?_
  refine lv_iload_n hx hb dL_law_358 rfl (lv_at hl 0 rfl) ?_
  refine lv_iconst (v := 1) hx hb dL_law_359 (by decide) ?_
  refine lv_iadd hx hb dL_law_360 ?_
  refine r_val (v := 1) (by decide) ?_
  refine va_sld hx hb hX hbl hbA w.2.2.1 (vpi (by decide) (by decide)) dL_law_361 ?_
  refine r_val (v := xs 1) (congrArg xs (show (1 : Int32).toNatClampNeg = 1 by decide)) ?_
  refine lv_aload_n hx hb dL_law_362 rfl (lv_at hl 3 rfl) ?_
  refine lv_iload_n hx hb dL_law_363 rfl (lv_at hl 0 rfl) ?_
  refine lv_iconst (v := 2) hx hb dL_law_364 (by decide) ?_
  refine lv_iadd hx hb dL_law_365 ?_
  refine r_val (v := 2) (by decide) ?_
  refine va_sld hx hb hX hbl hbA w.2.2.1 (vpi (by decide) (by decide)) dL_law_366 ?_
  refine r_val (v := xs 2) (congrArg xs (show (2 : Int32).toNatClampNeg = 2 by decide)) ?_
  refine x_Vi F w (As := [.int (xs 1), .int (xs 2)]) (rest := [.int 0]) (a := 146) (by decide) (sh_12 rfl _ _) rfl (c_X12_tone_144 (rfl) h0 h1) gv_L_44 hv_X12_tone ⟨Nat.le_of_ble_eq_true rfl, Nat.le_of_ble_eq_true rfl⟩ hl.1 rfl (Nat.le_of_ble_eq_true rfl) ⟨Nat.le_of_ble_eq_true rfl, Nat.le_of_ble_eq_true rfl⟩ dL_law_367 (fun H locs w => ?_)
  refine lv_icmp_eq (tgt := 1065) hx hb dL_law_370 (by decide) (fun _ => ?_) (fun c1 => absurd c1 (by decide))
  exact kk _ _ _ w
set_option maxRecDepth 8000 in
theorem lc_6 {p : Program} {l : Launch} {e : Env} {s : State} {m : MethodId} {below : List Frame} {meth : Method} {c : Code} {D : va_G} {B b : Nat} {cy : Nat → ClassId} {H : Heap} {locs : List Loc} {ls : Array Slot} {xs : Nat → Int32} {Q : State → Prop} (F : CallFix p m c code 4 s #[Value.ref b] TB RL) (hX : va_X b 6 xs s s.heap) (hbl : b < s.heap.size) (hbA : ¬ B ≤ b) (w : Wd D B cy s s.heap M0 H locs) (hl : lv_has ls 4 [(3, .int 0), (2, .ref (B + 146)), (1, .ref (B + 0)), (0, .ref b)]) (kk : ∀ (M1 : Mem) (H1 : Heap) (locs1 : List Loc), Wd D B cy s s.heap M1 H1 locs1 → W p l e room_1 s m #[Value.ref b] below meth c H1 locs1 159 13107 Q (F0 m 1065 ls [])) : W p l e room_1 s m #[Value.ref b] below meth c H locs 159 13107 Q (F0 m 342 ls []) := by
  rcases (show (xs 1).toInt < 0 ∨ (xs 1).toInt = 0 ∨ 0 < (xs 1).toInt by omega) with h1 | h1 | h1
  · skip
    exact la_6_11 F hX hbl hbA w hl (by rw [Int32.lt_iff_toInt_lt, show (0 : Int32).toInt = 0 from by decide]; omega) kk
  · have x1 : xs 1 = 0 := Int32.toInt_inj.mp (h1.trans (by decide))
    rcases (show (xs 2).toInt < 0 ∨ (xs 2).toInt = 0 ∨ (xs 2).toInt = 1 ∨ (xs 2).toInt = 2 ∨ 2 < (xs 2).toInt by omega) with h2 | h2 | h2 | h2 | h2
    · skip
      exact la_6_12 F hX hbl hbA w hl x1 (by rw [Int32.lt_iff_toInt_lt, show (0 : Int32).toInt = 0 from by decide]; omega) kk
    · have x2 : xs 2 = 0 := Int32.toInt_inj.mp (h2.trans (by decide))
      exact la_6_13 F hX hbl hbA w hl x1 x2 kk
    · have x2 : xs 2 = 1 := Int32.toInt_inj.mp (h2.trans (by decide))
      exact la_6_14 F hX hbl hbA w hl x1 x2 kk
    · have x2 : xs 2 = 2 := Int32.toInt_inj.mp (h2.trans (by decide))
      exact la_6_15 F hX hbl hbA w hl x1 x2 kk
    · skip
      exact la_6_16 F hX hbl hbA w hl x1 (by rw [Int32.lt_iff_toInt_lt, show (0 : Int32).toInt = 0 from by decide]; omega) (by rw [Int32.lt_iff_toInt_lt, show (2 : Int32).toInt = 2 from by decide]; omega) kk
  · skip
    exact la_6_17 F hX hbl hbA w hl (by rw [Int32.lt_iff_toInt_lt, show (0 : Int32).toInt = 0 from by decide]; omega) (by rw [Int32.lt_iff_toInt_lt, show (0 : Int32).toInt = 0 from by decide]; omega) kk
theorem dL_law_375 : decode cL_law 375 = .ok (.aload_n 1, 1) := by decide +kernel
theorem dL_law_376 : decode cL_law 376 = .ok (.aload_n 0, 1) := by decide +kernel
theorem dL_law_377 : decode cL_law 377 = .ok (.iload_n 3, 1) := by decide +kernel
theorem dL_law_378 : decode cL_law 378 = .ok (.iconst 1, 1) := by decide +kernel
theorem dL_law_379 : decode cL_law 379 = .ok (.iadd, 1) := by decide +kernel
theorem dL_law_380 : decode cL_law 380 = .ok (.iaload, 1) := by decide +kernel
theorem dL_law_381 : decode cL_law 381 = .ok (.invokevirtual 45, 3) := by decide +kernel
theorem dX11_hush_0 : decode cX11_hush 0 = .ok (.aload_n 0, 1) := by decide +kernel
theorem dX11_hush_1 : decode cX11_hush 1 = .ok (.getfield 43, 3) := by decide +kernel
theorem dX11_hush_4 : decode cX11_hush 4 = .ok (.iload_n 1, 1) := by decide +kernel
theorem dX11_hush_5 : decode cX11_hush 5 = .ok (.invokevirtual 141, 3) := by decide +kernel
theorem tb_289 : Cond.methodLink "ToneLines" 141 yX9_hasTone ∈ TB := tbm (tc3 (List.mem_of_getElem? (i := 168) rfl)) rfl
theorem gv_X11_141 : GoodIn TB (wsV RX11 141 RX9 yX9_hasTone (cw yX9_hasTone cX9_hasTone 2 (some .boolean))) := goodIn_4 tb_289 tb_232 tb_233 tb_61 gc_X9_hasTone
theorem dX11_hush_8 : decode cX11_hush 8 = .ok (.ifCond .ne 5, 3) := by decide +kernel
theorem dX11_hush_11 : decode cX11_hush 11 = .ok (.iconst 0, 1) := by decide +kernel
theorem dX11_hush_12 : decode cX11_hush 12 = .ok (.ireturn, 1) := by decide +kernel
set_option maxRecDepth 4000 in
theorem c_X11_hush_145 {l : Launch} {D : va_G} {B : Nat} {cy : Nat → ClassId} {M : Mem} {p1 : Int32} (h0 : p1 < 0) : Ci l D B cy yX11_hush cX11_hush 2 (some .boolean) 1 21 [.ref (B + 0), .int p1] M (fun r M1 => r = 0 ∧ M1 = M) := by
  refine s_any (by decide) (Nat.le_of_ble_eq_true rfl) ?_
  intro p e s m below meth c ls F hr hlocks w hl
  have F : CallFix p m c cX11_hush 2 s _ TB RX11 := F
  have hx := F.1
  have hb := F.2.1
  have hl : lv_has ls 2 [(0, .ref (B + 0)), (1, .int p1)] := hl
  refine lv_aload_n hx hb dX11_hush_0 rfl (lv_at hl 0 rfl) ?_
  refine f_11_4 F w (a := 0) rfl tb_75 dX11_hush_1 ?_
  refine lv_iload_n hx hb dX11_hush_4 rfl (lv_at hl 1 rfl) ?_
  refine x_Vi F w (As := [.int p1]) (rest := []) (a := 44) (by decide) (sh_9 rfl _ _) rfl (c_X9_hasTone_92 h0) gv_X11_141 hv_X9_hasTone ⟨Nat.le_of_ble_eq_true rfl, Nat.le_of_ble_eq_true rfl⟩ hl.1 rfl (Nat.le_of_ble_eq_true rfl) ⟨Nat.zero_le _, Nat.zero_le _⟩ dX11_hush_5 (fun H locs w => ?_)
  refine lv_if_ne (tgt := 13) hx hb dX11_hush_8 (by decide) (fun c1 => absurd c1 (by decide)) (fun _ => ?_)
  refine lv_iconst (v := 0) hx hb dX11_hush_11 (by decide) ?_
  exact e_z F w hr hlocks (by decide) ⟨rfl, rfl⟩ dX11_hush_12
theorem tk_X11_hush : Cond.code yX11_hush cX11_hush 2 (some .boolean) ∈ TB := tbm (tc3 (List.mem_of_getElem? (i := 167) rfl)) rfl
theorem gc_X11_hush : GoodIn TB (cw yX11_hush cX11_hush 2 (some .boolean)) := goodIn_c2 tk_X11_hush
theorem tb_290 : Cond.methodLink "ToneLinesLaw" 45 yX11_hush ∈ TB := tbm (tc3 (List.mem_of_getElem? (i := 164) rfl)) rfl
theorem tb_291 : Cond.instanceMethod yX11_hush ∈ TB := tbm (tc3 (List.mem_of_getElem? (i := 165) rfl)) rfl
theorem tb_292 : Cond.selects "ToneLines" yX11_hush yX11_hush ∈ TB := tbm (tc3 (List.mem_of_getElem? (i := 166) rfl)) rfl
theorem gv_L_45 : GoodIn TB (wsV RL 45 RX11 yX11_hush (cw yX11_hush cX11_hush 2 (some .boolean))) := goodIn_4 tb_290 tb_291 tb_292 tb_145 gc_X11_hush
theorem hv_X11_hush : yX11_hush.cls = RX11 ∧ yX11_hush.cls ≠ "java/lang/invoke/MethodHandle" ∧ yX11_hush.cls ≠ "java/lang/invoke/VarHandle" ∧ (parseMethodDescriptor yX11_hush.desc).map (fun d => d.parameters.length) = some 1 := by decide +kernel
theorem dL_law_384 : decode cL_law 384 = .ok (.aload_n 2, 1) := by decide +kernel
theorem dL_law_385 : decode cL_law 385 = .ok (.aload_n 0, 1) := by decide +kernel
theorem dL_law_386 : decode cL_law 386 = .ok (.iload_n 3, 1) := by decide +kernel
theorem dL_law_387 : decode cL_law 387 = .ok (.iconst 1, 1) := by decide +kernel
theorem dL_law_388 : decode cL_law 388 = .ok (.iadd, 1) := by decide +kernel
theorem dL_law_389 : decode cL_law 389 = .ok (.iaload, 1) := by decide +kernel
theorem dL_law_390 : decode cL_law 390 = .ok (.invokevirtual 49, 3) := by decide +kernel
theorem dX12_hush_0 : decode cX12_hush 0 = .ok (.aload_n 0, 1) := by decide +kernel
theorem dX12_hush_1 : decode cX12_hush 1 = .ok (.getfield 13, 3) := by decide +kernel
theorem dX12_hush_4 : decode cX12_hush 4 = .ok (.iload_n 1, 1) := by decide +kernel
theorem dX12_hush_5 : decode cX12_hush 5 = .ok (.invokestatic 105, 3) := by decide +kernel
theorem dX12_hush_8 : decode cX12_hush 8 = .ok (.ifCond .ne 5, 3) := by decide +kernel
theorem dX12_hush_11 : decode cX12_hush 11 = .ok (.iconst 0, 1) := by decide +kernel
theorem dX12_hush_12 : decode cX12_hush 12 = .ok (.ireturn, 1) := by decide +kernel
set_option maxRecDepth 4000 in
theorem c_X12_hush_146 {l : Launch} {D : va_G} {B : Nat} {cy : Nat → ClassId} {M : Mem} {p1 : Int32} (h0 : M.1 147 0 = 0) (h1 : p1 < 0) : Ci l D B cy yX12_hush cX12_hush 2 (some .boolean) 2 43 [.ref (B + 146), .int p1] M (fun r M1 => r = 0 ∧ M1 = M) := by
  refine s_any (by decide) (Nat.le_of_ble_eq_true rfl) ?_
  intro p e s m below meth c ls F hr hlocks w hl
  have F : CallFix p m c cX12_hush 2 s _ TB RX12 := F
  have hx := F.1
  have hb := F.2.1
  have hl : lv_has ls 2 [(0, .ref (B + 146)), (1, .int p1)] := hl
  refine lv_aload_n hx hb dX12_hush_0 rfl (lv_at hl 0 rfl) ?_
  refine f_12_1 F w (a := 146) rfl tb_126 dX12_hush_1 ?_
  refine lv_iload_n hx hb dX12_hush_4 rfl (lv_at hl 1 rfl) ?_
  refine x_Si F w (As := [.ref (B + 147), .int p1]) (rest := []) (c_X12_isTone_96 (h0) h1) gs_X12_105 hs_X12_isTone ⟨Nat.le_of_ble_eq_true rfl, Nat.le_of_ble_eq_true rfl⟩ hl.1 rfl (Nat.le_of_ble_eq_true rfl) ⟨Nat.zero_le _, Nat.zero_le _⟩ dX12_hush_5 (fun H locs w => ?_)
  refine lv_if_ne (tgt := 13) hx hb dX12_hush_8 (by decide) (fun c1 => absurd c1 (by decide)) (fun _ => ?_)
  refine lv_iconst (v := 0) hx hb dX12_hush_11 (by decide) ?_
  exact e_z F w hr hlocks (by decide) ⟨rfl, rfl⟩ dX12_hush_12
theorem tk_X12_hush : Cond.code yX12_hush cX12_hush 2 (some .boolean) ∈ TB := tbm (tc6 (List.mem_of_getElem? (i := 21) rfl)) rfl
theorem gc_X12_hush : GoodIn TB (cw yX12_hush cX12_hush 2 (some .boolean)) := goodIn_c2 tk_X12_hush
theorem tb_293 : Cond.methodLink "ToneLinesLaw" 49 yX12_hush ∈ TB := tbm (tc6 (List.mem_of_getElem? (i := 18) rfl)) rfl
theorem tb_294 : Cond.instanceMethod yX12_hush ∈ TB := tbm (tc6 (List.mem_of_getElem? (i := 19) rfl)) rfl
theorem tb_295 : Cond.selects "ToneLinesModel" yX12_hush yX12_hush ∈ TB := tbm (tc6 (List.mem_of_getElem? (i := 20) rfl)) rfl
theorem gv_L_49 : GoodIn TB (wsV RL 49 RX12 yX12_hush (cw yX12_hush cX12_hush 2 (some .boolean))) := goodIn_4 tb_293 tb_294 tb_295 tb_150 gc_X12_hush
theorem hv_X12_hush : yX12_hush.cls = RX12 ∧ yX12_hush.cls ≠ "java/lang/invoke/MethodHandle" ∧ yX12_hush.cls ≠ "java/lang/invoke/VarHandle" ∧ (parseMethodDescriptor yX12_hush.desc).map (fun d => d.parameters.length) = some 1 := by decide +kernel
theorem dL_law_393 : decode cL_law 393 = .ok (.if_icmp .eq 672, 3) := by decide +kernel
set_option maxRecDepth 8000 in
theorem la_7_18 {p : Program} {l : Launch} {e : Env} {s : State} {m : MethodId} {below : List Frame} {meth : Method} {c : Code} {D : va_G} {B b : Nat} {cy : Nat → ClassId} {H : Heap} {locs : List Loc} {ls : Array Slot} {xs : Nat → Int32} {Q : State → Prop} (F : CallFix p m c code 4 s #[Value.ref b] TB RL) (hX : va_X b 6 xs s s.heap) (hbl : b < s.heap.size) (hbA : ¬ B ≤ b) (w : Wd D B cy s s.heap M0 H locs) (hl : lv_has ls 4 [(3, .int 0), (2, .ref (B + 146)), (1, .ref (B + 0)), (0, .ref b)]) (h0 : (xs 1) < 0) (kk : ∀ (M1 : Mem) (H1 : Heap) (locs1 : List Loc), Wd D B cy s s.heap M1 H1 locs1 → W p l e room_1 s m #[Value.ref b] below meth c H1 locs1 159 13107 Q (F0 m 1065 ls [])) : W p l e room_1 s m #[Value.ref b] below meth c H locs 159 13107 Q (F0 m 375 ls []) := by
  have hx := F.1
  have hb := F.2.1
  refine lv_aload_n hx hb dL_law_375 rfl (lv_at hl 2 rfl) ?_
  refine lv_aload_n hx hb dL_law_376 rfl (lv_at hl 3 rfl) ?_
  refine lv_iload_n hx hb dL_law_377 rfl (lv_at hl 0 rfl) ?_
  refine lv_iconst (v := 1) hx hb dL_law_378 (by decide) ?_
  refine lv_iadd hx hb dL_law_379 ?_
  refine r_val (v := 1) (by decide) ?_
  refine va_sld hx hb hX hbl hbA w.2.2.1 (vpi (by decide) (by decide)) dL_law_380 ?_
  refine r_val (v := xs 1) (congrArg xs (show (1 : Int32).toNatClampNeg = 1 by decide)) ?_
  refine x_Vi F w (As := [.int (xs 1)]) (rest := []) (a := 0) (by decide) (sh_11 rfl _ _) rfl (c_X11_hush_145 h0) gv_L_45 hv_X11_hush ⟨Nat.le_of_ble_eq_true rfl, Nat.le_of_ble_eq_true rfl⟩ hl.1 rfl (Nat.le_of_ble_eq_true rfl) ⟨Nat.le_of_ble_eq_true rfl, Nat.le_of_ble_eq_true rfl⟩ dL_law_381 (fun H locs w => ?_)
  refine lv_aload_n hx hb dL_law_384 rfl (lv_at hl 1 rfl) ?_
  refine lv_aload_n hx hb dL_law_385 rfl (lv_at hl 3 rfl) ?_
  refine lv_iload_n hx hb dL_law_386 rfl (lv_at hl 0 rfl) ?_
  refine lv_iconst (v := 1) hx hb dL_law_387 (by decide) ?_
  refine lv_iadd hx hb dL_law_388 ?_
  refine r_val (v := 1) (by decide) ?_
  refine va_sld hx hb hX hbl hbA w.2.2.1 (vpi (by decide) (by decide)) dL_law_389 ?_
  refine r_val (v := xs 1) (congrArg xs (show (1 : Int32).toNatClampNeg = 1 by decide)) ?_
  refine x_Vi F w (As := [.int (xs 1)]) (rest := [.int 0]) (a := 146) (by decide) (sh_12 rfl _ _) rfl (c_X12_hush_146 (rfl) h0) gv_L_49 hv_X12_hush ⟨Nat.le_of_ble_eq_true rfl, Nat.le_of_ble_eq_true rfl⟩ hl.1 rfl (Nat.le_of_ble_eq_true rfl) ⟨Nat.le_of_ble_eq_true rfl, Nat.le_of_ble_eq_true rfl⟩ dL_law_390 (fun H locs w => ?_)
  refine lv_icmp_eq (tgt := 1065) hx hb dL_law_393 (by decide) (fun _ => ?_) (fun c1 => absurd c1 (by decide))
  exact kk _ _ _ w
set_option maxRecDepth 4000 in
theorem c_X11_hush_147 {l : Launch} {D : va_G} {B : Nat} {cy : Nat → ClassId} {M : Mem} {p1 : Int32} (h0 : ¬ p1 < 0) (h1 : M.1 44 0 = 0) (h2 : 0 ≤ p1) : Ci l D B cy yX11_hush cX11_hush 2 (some .boolean) 1 21 [.ref (B + 0), .int p1] M (fun r M1 => r = 0 ∧ M1 = M) := by
  refine s_any (by decide) (Nat.le_of_ble_eq_true rfl) ?_
  intro p e s m below meth c ls F hr hlocks w hl
  have F : CallFix p m c cX11_hush 2 s _ TB RX11 := F
  have hx := F.1
  have hb := F.2.1
  have hl : lv_has ls 2 [(0, .ref (B + 0)), (1, .int p1)] := hl
  refine lv_aload_n hx hb dX11_hush_0 rfl (lv_at hl 0 rfl) ?_
  refine f_11_4 F w (a := 0) rfl tb_75 dX11_hush_1 ?_
  refine lv_iload_n hx hb dX11_hush_4 rfl (lv_at hl 1 rfl) ?_
  refine x_Vi F w (As := [.int p1]) (rest := []) (a := 44) (by decide) (sh_9 rfl _ _) rfl (c_X9_hasTone_98 h0 (h1) h2) gv_X11_141 hv_X9_hasTone ⟨Nat.le_of_ble_eq_true rfl, Nat.le_of_ble_eq_true rfl⟩ hl.1 rfl (Nat.le_of_ble_eq_true rfl) ⟨Nat.zero_le _, Nat.zero_le _⟩ dX11_hush_5 (fun H locs w => ?_)
  refine lv_if_ne (tgt := 13) hx hb dX11_hush_8 (by decide) (fun c1 => absurd c1 (by decide)) (fun _ => ?_)
  refine lv_iconst (v := 0) hx hb dX11_hush_11 (by decide) ?_
  exact e_z F w hr hlocks (by decide) ⟨rfl, rfl⟩ dX11_hush_12
set_option maxRecDepth 4000 in
theorem c_X12_hush_148 {l : Launch} {D : va_G} {B : Nat} {cy : Nat → ClassId} {M : Mem} {p1 : Int32} (h0 : M.1 147 0 = 0) (h1 : ¬ p1 < 0) (h2 : (-1) < p1) : Ci l D B cy yX12_hush cX12_hush 2 (some .boolean) 2 43 [.ref (B + 146), .int p1] M (fun r M1 => r = 0 ∧ M1 = M) := by
  refine s_any (by decide) (Nat.le_of_ble_eq_true rfl) ?_
  intro p e s m below meth c ls F hr hlocks w hl
  have F : CallFix p m c cX12_hush 2 s _ TB RX12 := F
  have hx := F.1
  have hb := F.2.1
  have hl : lv_has ls 2 [(0, .ref (B + 146)), (1, .int p1)] := hl
  refine lv_aload_n hx hb dX12_hush_0 rfl (lv_at hl 0 rfl) ?_
  refine f_12_1 F w (a := 146) rfl tb_126 dX12_hush_1 ?_
  refine lv_iload_n hx hb dX12_hush_4 rfl (lv_at hl 1 rfl) ?_
  refine x_Si F w (As := [.ref (B + 147), .int p1]) (rest := []) (c_X12_isTone_102 (h0) h1 h2) gs_X12_105 hs_X12_isTone ⟨Nat.le_of_ble_eq_true rfl, Nat.le_of_ble_eq_true rfl⟩ hl.1 rfl (Nat.le_of_ble_eq_true rfl) ⟨Nat.zero_le _, Nat.zero_le _⟩ dX12_hush_5 (fun H locs w => ?_)
  refine lv_if_ne (tgt := 13) hx hb dX12_hush_8 (by decide) (fun c1 => absurd c1 (by decide)) (fun _ => ?_)
  refine lv_iconst (v := 0) hx hb dX12_hush_11 (by decide) ?_
  exact e_z F w hr hlocks (by decide) ⟨rfl, rfl⟩ dX12_hush_12
set_option maxRecDepth 8000 in
theorem la_7_19 {p : Program} {l : Launch} {e : Env} {s : State} {m : MethodId} {below : List Frame} {meth : Method} {c : Code} {D : va_G} {B b : Nat} {cy : Nat → ClassId} {H : Heap} {locs : List Loc} {ls : Array Slot} {xs : Nat → Int32} {Q : State → Prop} (F : CallFix p m c code 4 s #[Value.ref b] TB RL) (hX : va_X b 6 xs s s.heap) (hbl : b < s.heap.size) (hbA : ¬ B ≤ b) (w : Wd D B cy s s.heap M0 H locs) (hl : lv_has ls 4 [(3, .int 0), (2, .ref (B + 146)), (1, .ref (B + 0)), (0, .ref b)]) (h0 : ¬ (xs 1) < 0) (h1 : 0 ≤ (xs 1)) (h2 : (-1) < (xs 1)) (kk : ∀ (M1 : Mem) (H1 : Heap) (locs1 : List Loc), Wd D B cy s s.heap M1 H1 locs1 → W p l e room_1 s m #[Value.ref b] below meth c H1 locs1 159 13107 Q (F0 m 1065 ls [])) : W p l e room_1 s m #[Value.ref b] below meth c H locs 159 13107 Q (F0 m 375 ls []) := by
  have hx := F.1
  have hb := F.2.1
  refine lv_aload_n hx hb dL_law_375 rfl (lv_at hl 2 rfl) ?_
  refine lv_aload_n hx hb dL_law_376 rfl (lv_at hl 3 rfl) ?_
  refine lv_iload_n hx hb dL_law_377 rfl (lv_at hl 0 rfl) ?_
  refine lv_iconst (v := 1) hx hb dL_law_378 (by decide) ?_
  refine lv_iadd hx hb dL_law_379 ?_
  refine r_val (v := 1) (by decide) ?_
  refine va_sld hx hb hX hbl hbA w.2.2.1 (vpi (by decide) (by decide)) dL_law_380 ?_
  refine r_val (v := xs 1) (congrArg xs (show (1 : Int32).toNatClampNeg = 1 by decide)) ?_
  refine x_Vi F w (As := [.int (xs 1)]) (rest := []) (a := 0) (by decide) (sh_11 rfl _ _) rfl (c_X11_hush_147 h0 (rfl) h1) gv_L_45 hv_X11_hush ⟨Nat.le_of_ble_eq_true rfl, Nat.le_of_ble_eq_true rfl⟩ hl.1 rfl (Nat.le_of_ble_eq_true rfl) ⟨Nat.le_of_ble_eq_true rfl, Nat.le_of_ble_eq_true rfl⟩ dL_law_381 (fun H locs w => ?_)
  refine lv_aload_n hx hb dL_law_384 rfl (lv_at hl 1 rfl) ?_
  refine lv_aload_n hx hb dL_law_385 rfl (lv_at hl 3 rfl) ?_
  refine lv_iload_n hx hb dL_law_386 rfl (lv_at hl 0 rfl) ?_
  refine lv_iconst (v := 1) hx hb dL_law_387 (by decide) ?_
  refine lv_iadd hx hb dL_law_388 ?_
  refine r_val (v := 1) (by decide) ?_
  refine va_sld hx hb hX hbl hbA w.2.2.1 (vpi (by decide) (by decide)) dL_law_389 ?_
  refine r_val (v := xs 1) (congrArg xs (show (1 : Int32).toNatClampNeg = 1 by decide)) ?_
  refine x_Vi F w (As := [.int (xs 1)]) (rest := [.int 0]) (a := 146) (by decide) (sh_12 rfl _ _) rfl (c_X12_hush_148 (rfl) h0 h2) gv_L_49 hv_X12_hush ⟨Nat.le_of_ble_eq_true rfl, Nat.le_of_ble_eq_true rfl⟩ hl.1 rfl (Nat.le_of_ble_eq_true rfl) ⟨Nat.le_of_ble_eq_true rfl, Nat.le_of_ble_eq_true rfl⟩ dL_law_390 (fun H locs w => ?_)
  refine lv_icmp_eq (tgt := 1065) hx hb dL_law_393 (by decide) (fun _ => ?_) (fun c1 => absurd c1 (by decide))
  exact kk _ _ _ w
set_option maxRecDepth 8000 in
theorem lc_7 {p : Program} {l : Launch} {e : Env} {s : State} {m : MethodId} {below : List Frame} {meth : Method} {c : Code} {D : va_G} {B b : Nat} {cy : Nat → ClassId} {H : Heap} {locs : List Loc} {ls : Array Slot} {xs : Nat → Int32} {Q : State → Prop} (F : CallFix p m c code 4 s #[Value.ref b] TB RL) (hX : va_X b 6 xs s s.heap) (hbl : b < s.heap.size) (hbA : ¬ B ≤ b) (w : Wd D B cy s s.heap M0 H locs) (hl : lv_has ls 4 [(3, .int 0), (2, .ref (B + 146)), (1, .ref (B + 0)), (0, .ref b)]) (kk : ∀ (M1 : Mem) (H1 : Heap) (locs1 : List Loc), Wd D B cy s s.heap M1 H1 locs1 → W p l e room_1 s m #[Value.ref b] below meth c H1 locs1 159 13107 Q (F0 m 1065 ls [])) : W p l e room_1 s m #[Value.ref b] below meth c H locs 159 13107 Q (F0 m 375 ls []) := by
  rcases (show (xs 1).toInt < 0 ∨ 0 ≤ (xs 1).toInt by omega) with h1 | h1
  · skip
    exact la_7_18 F hX hbl hbA w hl (by rw [Int32.lt_iff_toInt_lt, show (0 : Int32).toInt = 0 from by decide]; omega) kk
  · skip
    exact la_7_19 F hX hbl hbA w hl (by rw [Int32.lt_iff_toInt_lt, show (0 : Int32).toInt = 0 from by decide]; omega) (by rw [Int32.le_iff_toInt_le, show (0 : Int32).toInt = 0 from by decide]; omega) (by rw [Int32.lt_iff_toInt_lt, show (-1 : Int32).toInt = -1 from by decide]; omega) kk
theorem dL_law_398 : decode cL_law 398 = .ok (.aload_n 1, 1) := by decide +kernel
theorem dL_law_399 : decode cL_law 399 = .ok (.aload_n 0, 1) := by decide +kernel
theorem dL_law_400 : decode cL_law 400 = .ok (.iload_n 3, 1) := by decide +kernel
theorem dL_law_401 : decode cL_law 401 = .ok (.iconst 1, 1) := by decide +kernel
theorem dL_law_402 : decode cL_law 402 = .ok (.iadd, 1) := by decide +kernel
theorem dL_law_403 : decode cL_law 403 = .ok (.iaload, 1) := by decide +kernel
theorem dL_law_404 : decode cL_law 404 = .ok (.aload_n 0, 1) := by decide +kernel
theorem dL_law_405 : decode cL_law 405 = .ok (.iload_n 3, 1) := by decide +kernel
theorem dL_law_406 : decode cL_law 406 = .ok (.iconst 2, 1) := by decide +kernel
theorem dL_law_407 : decode cL_law 407 = .ok (.iadd, 1) := by decide +kernel
theorem dL_law_408 : decode cL_law 408 = .ok (.iaload, 1) := by decide +kernel
theorem dL_law_409 : decode cL_law 409 = .ok (.invokevirtual 50, 3) := by decide +kernel
theorem dX11_turn_0 : decode cX11_turn 0 = .ok (.aload_n 0, 1) := by decide +kernel
theorem dX11_turn_1 : decode cX11_turn 1 = .ok (.getfield 43, 3) := by decide +kernel
theorem dX11_turn_4 : decode cX11_turn 4 = .ok (.iload_n 1, 1) := by decide +kernel
theorem dX11_turn_5 : decode cX11_turn 5 = .ok (.invokevirtual 141, 3) := by decide +kernel
theorem dX11_turn_8 : decode cX11_turn 8 = .ok (.ifCond .eq 23, 3) := by decide +kernel
theorem dX11_turn_31 : decode cX11_turn 31 = .ok (.iconst (-1), 1) := by decide +kernel
theorem dX11_turn_32 : decode cX11_turn 32 = .ok (.ireturn, 1) := by decide +kernel
set_option maxRecDepth 4000 in
theorem c_X11_turn_149 {l : Launch} {D : va_G} {B : Nat} {cy : Nat → ClassId} {M : Mem} {p1 : Int32} {p2 : Int32} (h0 : p1 < 0) : Ci l D B cy yX11_turn cX11_turn 4 (some .int) 1 21 [.ref (B + 0), .int p1, .int p2] M (fun r M1 => r = (-1) ∧ M1 = M) := by
  refine s_any (by decide) (Nat.le_of_ble_eq_true rfl) ?_
  intro p e s m below meth c ls F hr hlocks w hl
  have F : CallFix p m c cX11_turn 4 s _ TB RX11 := F
  have hx := F.1
  have hb := F.2.1
  have hl : lv_has ls 4 [(0, .ref (B + 0)), (1, .int p1), (2, .int p2)] := hl
  refine lv_aload_n hx hb dX11_turn_0 rfl (lv_at hl 0 rfl) ?_
  refine f_11_4 F w (a := 0) rfl tb_75 dX11_turn_1 ?_
  refine lv_iload_n hx hb dX11_turn_4 rfl (lv_at hl 1 rfl) ?_
  refine x_Vi F w (As := [.int p1]) (rest := []) (a := 44) (by decide) (sh_9 rfl _ _) rfl (c_X9_hasTone_92 h0) gv_X11_141 hv_X9_hasTone ⟨Nat.le_of_ble_eq_true rfl, Nat.le_of_ble_eq_true rfl⟩ hl.1 rfl (Nat.le_of_ble_eq_true rfl) ⟨Nat.zero_le _, Nat.zero_le _⟩ dX11_turn_5 (fun H locs w => ?_)
  refine lv_if_eq (tgt := 31) hx hb dX11_turn_8 (by decide) (fun _ => ?_) (fun c1 => absurd c1 (by decide))
  refine lv_iconst (v := (-1)) hx hb dX11_turn_31 (by decide) ?_
  exact e_i F w hr hlocks ⟨rfl, rfl⟩ dX11_turn_32
theorem tk_X11_turn : Cond.code yX11_turn cX11_turn 4 (some .int) ∈ TB := tbm (tc3 (List.mem_of_getElem? (i := 176) rfl)) rfl
theorem gc_X11_turn : GoodIn TB (cw yX11_turn cX11_turn 4 (some .int)) := goodIn_c2 tk_X11_turn
theorem tb_296 : Cond.methodLink "ToneLinesLaw" 50 yX11_turn ∈ TB := tbm (tc3 (List.mem_of_getElem? (i := 173) rfl)) rfl
theorem tb_297 : Cond.instanceMethod yX11_turn ∈ TB := tbm (tc3 (List.mem_of_getElem? (i := 174) rfl)) rfl
theorem tb_298 : Cond.selects "ToneLines" yX11_turn yX11_turn ∈ TB := tbm (tc3 (List.mem_of_getElem? (i := 175) rfl)) rfl
theorem gv_L_50 : GoodIn TB (wsV RL 50 RX11 yX11_turn (cw yX11_turn cX11_turn 4 (some .int))) := goodIn_4 tb_296 tb_297 tb_298 tb_145 gc_X11_turn
theorem hv_X11_turn : yX11_turn.cls = RX11 ∧ yX11_turn.cls ≠ "java/lang/invoke/MethodHandle" ∧ yX11_turn.cls ≠ "java/lang/invoke/VarHandle" ∧ (parseMethodDescriptor yX11_turn.desc).map (fun d => d.parameters.length) = some 2 := by decide +kernel
theorem dL_law_412 : decode cL_law 412 = .ok (.aload_n 2, 1) := by decide +kernel
theorem dL_law_413 : decode cL_law 413 = .ok (.aload_n 0, 1) := by decide +kernel
theorem dL_law_414 : decode cL_law 414 = .ok (.iload_n 3, 1) := by decide +kernel
theorem dL_law_415 : decode cL_law 415 = .ok (.iconst 1, 1) := by decide +kernel
theorem dL_law_416 : decode cL_law 416 = .ok (.iadd, 1) := by decide +kernel
theorem dL_law_417 : decode cL_law 417 = .ok (.iaload, 1) := by decide +kernel
theorem dL_law_418 : decode cL_law 418 = .ok (.aload_n 0, 1) := by decide +kernel
theorem dL_law_419 : decode cL_law 419 = .ok (.iload_n 3, 1) := by decide +kernel
theorem dL_law_420 : decode cL_law 420 = .ok (.iconst 2, 1) := by decide +kernel
theorem dL_law_421 : decode cL_law 421 = .ok (.iadd, 1) := by decide +kernel
theorem dL_law_422 : decode cL_law 422 = .ok (.iaload, 1) := by decide +kernel
theorem dL_law_423 : decode cL_law 423 = .ok (.invokevirtual 54, 3) := by decide +kernel
theorem dX12_turn_0 : decode cX12_turn 0 = .ok (.aload_n 0, 1) := by decide +kernel
theorem dX12_turn_1 : decode cX12_turn 1 = .ok (.getfield 13, 3) := by decide +kernel
theorem dX12_turn_4 : decode cX12_turn 4 = .ok (.iload_n 1, 1) := by decide +kernel
theorem dX12_turn_5 : decode cX12_turn 5 = .ok (.invokestatic 105, 3) := by decide +kernel
theorem dX12_turn_8 : decode cX12_turn 8 = .ok (.ifCond .eq 24, 3) := by decide +kernel
theorem dX12_turn_32 : decode cX12_turn 32 = .ok (.iconst (-1), 1) := by decide +kernel
theorem dX12_turn_33 : decode cX12_turn 33 = .ok (.ireturn, 1) := by decide +kernel
set_option maxRecDepth 4000 in
theorem c_X12_turn_150 {l : Launch} {D : va_G} {B : Nat} {cy : Nat → ClassId} {M : Mem} {p1 : Int32} {p2 : Int32} (h0 : M.1 147 0 = 0) (h1 : p1 < 0) : Ci l D B cy yX12_turn cX12_turn 4 (some .int) 2 43 [.ref (B + 146), .int p1, .int p2] M (fun r M1 => r = (-1) ∧ M1 = M) := by
  refine s_any (by decide) (Nat.le_of_ble_eq_true rfl) ?_
  intro p e s m below meth c ls F hr hlocks w hl
  have F : CallFix p m c cX12_turn 4 s _ TB RX12 := F
  have hx := F.1
  have hb := F.2.1
  have hl : lv_has ls 4 [(0, .ref (B + 146)), (1, .int p1), (2, .int p2)] := hl
  refine lv_aload_n hx hb dX12_turn_0 rfl (lv_at hl 0 rfl) ?_
  refine f_12_1 F w (a := 146) rfl tb_126 dX12_turn_1 ?_
  refine lv_iload_n hx hb dX12_turn_4 rfl (lv_at hl 1 rfl) ?_
  refine x_Si F w (As := [.ref (B + 147), .int p1]) (rest := []) (c_X12_isTone_96 (h0) h1) gs_X12_105 hs_X12_isTone ⟨Nat.le_of_ble_eq_true rfl, Nat.le_of_ble_eq_true rfl⟩ hl.1 rfl (Nat.le_of_ble_eq_true rfl) ⟨Nat.zero_le _, Nat.zero_le _⟩ dX12_turn_5 (fun H locs w => ?_)
  refine lv_if_eq (tgt := 32) hx hb dX12_turn_8 (by decide) (fun _ => ?_) (fun c1 => absurd c1 (by decide))
  refine lv_iconst (v := (-1)) hx hb dX12_turn_32 (by decide) ?_
  exact e_i F w hr hlocks ⟨rfl, rfl⟩ dX12_turn_33
theorem tk_X12_turn : Cond.code yX12_turn cX12_turn 4 (some .int) ∈ TB := tbm (tc6 (List.mem_of_getElem? (i := 28) rfl)) rfl
theorem gc_X12_turn : GoodIn TB (cw yX12_turn cX12_turn 4 (some .int)) := goodIn_c2 tk_X12_turn
theorem tb_299 : Cond.methodLink "ToneLinesLaw" 54 yX12_turn ∈ TB := tbm (tc6 (List.mem_of_getElem? (i := 25) rfl)) rfl
theorem tb_300 : Cond.instanceMethod yX12_turn ∈ TB := tbm (tc6 (List.mem_of_getElem? (i := 26) rfl)) rfl
theorem tb_301 : Cond.selects "ToneLinesModel" yX12_turn yX12_turn ∈ TB := tbm (tc6 (List.mem_of_getElem? (i := 27) rfl)) rfl
theorem gv_L_54 : GoodIn TB (wsV RL 54 RX12 yX12_turn (cw yX12_turn cX12_turn 4 (some .int))) := goodIn_4 tb_299 tb_300 tb_301 tb_150 gc_X12_turn
theorem hv_X12_turn : yX12_turn.cls = RX12 ∧ yX12_turn.cls ≠ "java/lang/invoke/MethodHandle" ∧ yX12_turn.cls ≠ "java/lang/invoke/VarHandle" ∧ (parseMethodDescriptor yX12_turn.desc).map (fun d => d.parameters.length) = some 2 := by decide +kernel
theorem dL_law_426 : decode cL_law 426 = .ok (.if_icmp .eq 639, 3) := by decide +kernel
set_option maxRecDepth 8000 in
theorem la_8_20 {p : Program} {l : Launch} {e : Env} {s : State} {m : MethodId} {below : List Frame} {meth : Method} {c : Code} {D : va_G} {B b : Nat} {cy : Nat → ClassId} {H : Heap} {locs : List Loc} {ls : Array Slot} {xs : Nat → Int32} {Q : State → Prop} (F : CallFix p m c code 4 s #[Value.ref b] TB RL) (hX : va_X b 6 xs s s.heap) (hbl : b < s.heap.size) (hbA : ¬ B ≤ b) (w : Wd D B cy s s.heap M0 H locs) (hl : lv_has ls 4 [(3, .int 0), (2, .ref (B + 146)), (1, .ref (B + 0)), (0, .ref b)]) (h0 : (xs 1) < 0) (kk : ∀ (M1 : Mem) (H1 : Heap) (locs1 : List Loc), Wd D B cy s s.heap M1 H1 locs1 → W p l e room_1 s m #[Value.ref b] below meth c H1 locs1 159 13107 Q (F0 m 1065 ls [])) : W p l e room_1 s m #[Value.ref b] below meth c H locs 159 13107 Q (F0 m 398 ls []) := by
  have hx := F.1
  have hb := F.2.1
  refine lv_aload_n hx hb dL_law_398 rfl (lv_at hl 2 rfl) ?_
  refine lv_aload_n hx hb dL_law_399 rfl (lv_at hl 3 rfl) ?_
  refine lv_iload_n hx hb dL_law_400 rfl (lv_at hl 0 rfl) ?_
  refine lv_iconst (v := 1) hx hb dL_law_401 (by decide) ?_
  refine lv_iadd hx hb dL_law_402 ?_
  refine r_val (v := 1) (by decide) ?_
  refine va_sld hx hb hX hbl hbA w.2.2.1 (vpi (by decide) (by decide)) dL_law_403 ?_
  refine r_val (v := xs 1) (congrArg xs (show (1 : Int32).toNatClampNeg = 1 by decide)) ?_
  refine lv_aload_n hx hb dL_law_404 rfl (lv_at hl 3 rfl) ?_
  refine lv_iload_n hx hb dL_law_405 rfl (lv_at hl 0 rfl) ?_
  refine lv_iconst (v := 2) hx hb dL_law_406 (by decide) ?_
  refine lv_iadd hx hb dL_law_407 ?_
  refine r_val (v := 2) (by decide) ?_
  refine va_sld hx hb hX hbl hbA w.2.2.1 (vpi (by decide) (by decide)) dL_law_408 ?_
  refine r_val (v := xs 2) (congrArg xs (show (2 : Int32).toNatClampNeg = 2 by decide)) ?_
  refine x_Vi F w (As := [.int (xs 1), .int (xs 2)]) (rest := []) (a := 0) (by decide) (sh_11 rfl _ _) rfl (c_X11_turn_149 h0) gv_L_50 hv_X11_turn ⟨Nat.le_of_ble_eq_true rfl, Nat.le_of_ble_eq_true rfl⟩ hl.1 rfl (Nat.le_of_ble_eq_true rfl) ⟨Nat.le_of_ble_eq_true rfl, Nat.le_of_ble_eq_true rfl⟩ dL_law_409 (fun H locs w => ?_)
  refine lv_aload_n hx hb dL_law_412 rfl (lv_at hl 1 rfl) ?_
  refine lv_aload_n hx hb dL_law_413 rfl (lv_at hl 3 rfl) ?_
  refine lv_iload_n hx hb dL_law_414 rfl (lv_at hl 0 rfl) ?_
  refine lv_iconst (v := 1) hx hb dL_law_415 (by decide) ?_
  refine lv_iadd hx hb dL_law_416 ?_
  refine r_val (v := 1) (by decide) ?_
  refine va_sld hx hb hX hbl hbA w.2.2.1 (vpi (by decide) (by decide)) dL_law_417 ?_
  refine r_val (v := xs 1) (congrArg xs (show (1 : Int32).toNatClampNeg = 1 by decide)) ?_
  refine lv_aload_n hx hb dL_law_418 rfl (lv_at hl 3 rfl) ?_
  refine lv_iload_n hx hb dL_law_419 rfl (lv_at hl 0 rfl) ?_
  refine lv_iconst (v := 2) hx hb dL_law_420 (by decide) ?_
  refine lv_iadd hx hb dL_law_421 ?_
  refine r_val (v := 2) (by decide) ?_
  refine va_sld hx hb hX hbl hbA w.2.2.1 (vpi (by decide) (by decide)) dL_law_422 ?_
  refine r_val (v := xs 2) (congrArg xs (show (2 : Int32).toNatClampNeg = 2 by decide)) ?_
  refine x_Vi F w (As := [.int (xs 1), .int (xs 2)]) (rest := [.int (-1)]) (a := 146) (by decide) (sh_12 rfl _ _) rfl (c_X12_turn_150 (rfl) h0) gv_L_54 hv_X12_turn ⟨Nat.le_of_ble_eq_true rfl, Nat.le_of_ble_eq_true rfl⟩ hl.1 rfl (Nat.le_of_ble_eq_true rfl) ⟨Nat.le_of_ble_eq_true rfl, Nat.le_of_ble_eq_true rfl⟩ dL_law_423 (fun H locs w => ?_)
  refine lv_icmp_eq (tgt := 1065) hx hb dL_law_426 (by decide) (fun _ => ?_) (fun c1 => absurd c1 (by decide))
  exact kk _ _ _ w
set_option maxRecDepth 4000 in
theorem c_X11_turn_151 {l : Launch} {D : va_G} {B : Nat} {cy : Nat → ClassId} {M : Mem} {p1 : Int32} {p2 : Int32} (h0 : ¬ p1 < 0) (h1 : M.1 44 0 = 0) (h2 : 0 ≤ p1) : Ci l D B cy yX11_turn cX11_turn 4 (some .int) 1 21 [.ref (B + 0), .int p1, .int p2] M (fun r M1 => r = (-1) ∧ M1 = M) := by
  refine s_any (by decide) (Nat.le_of_ble_eq_true rfl) ?_
  intro p e s m below meth c ls F hr hlocks w hl
  have F : CallFix p m c cX11_turn 4 s _ TB RX11 := F
  have hx := F.1
  have hb := F.2.1
  have hl : lv_has ls 4 [(0, .ref (B + 0)), (1, .int p1), (2, .int p2)] := hl
  refine lv_aload_n hx hb dX11_turn_0 rfl (lv_at hl 0 rfl) ?_
  refine f_11_4 F w (a := 0) rfl tb_75 dX11_turn_1 ?_
  refine lv_iload_n hx hb dX11_turn_4 rfl (lv_at hl 1 rfl) ?_
  refine x_Vi F w (As := [.int p1]) (rest := []) (a := 44) (by decide) (sh_9 rfl _ _) rfl (c_X9_hasTone_98 h0 (h1) h2) gv_X11_141 hv_X9_hasTone ⟨Nat.le_of_ble_eq_true rfl, Nat.le_of_ble_eq_true rfl⟩ hl.1 rfl (Nat.le_of_ble_eq_true rfl) ⟨Nat.zero_le _, Nat.zero_le _⟩ dX11_turn_5 (fun H locs w => ?_)
  refine lv_if_eq (tgt := 31) hx hb dX11_turn_8 (by decide) (fun _ => ?_) (fun c1 => absurd c1 (by decide))
  refine lv_iconst (v := (-1)) hx hb dX11_turn_31 (by decide) ?_
  exact e_i F w hr hlocks ⟨rfl, rfl⟩ dX11_turn_32
set_option maxRecDepth 4000 in
theorem c_X12_turn_152 {l : Launch} {D : va_G} {B : Nat} {cy : Nat → ClassId} {M : Mem} {p1 : Int32} {p2 : Int32} (h0 : M.1 147 0 = 0) (h1 : ¬ p1 < 0) (h2 : (-1) < p1) : Ci l D B cy yX12_turn cX12_turn 4 (some .int) 2 43 [.ref (B + 146), .int p1, .int p2] M (fun r M1 => r = (-1) ∧ M1 = M) := by
  refine s_any (by decide) (Nat.le_of_ble_eq_true rfl) ?_
  intro p e s m below meth c ls F hr hlocks w hl
  have F : CallFix p m c cX12_turn 4 s _ TB RX12 := F
  have hx := F.1
  have hb := F.2.1
  have hl : lv_has ls 4 [(0, .ref (B + 146)), (1, .int p1), (2, .int p2)] := hl
  refine lv_aload_n hx hb dX12_turn_0 rfl (lv_at hl 0 rfl) ?_
  refine f_12_1 F w (a := 146) rfl tb_126 dX12_turn_1 ?_
  refine lv_iload_n hx hb dX12_turn_4 rfl (lv_at hl 1 rfl) ?_
  refine x_Si F w (As := [.ref (B + 147), .int p1]) (rest := []) (c_X12_isTone_102 (h0) h1 h2) gs_X12_105 hs_X12_isTone ⟨Nat.le_of_ble_eq_true rfl, Nat.le_of_ble_eq_true rfl⟩ hl.1 rfl (Nat.le_of_ble_eq_true rfl) ⟨Nat.zero_le _, Nat.zero_le _⟩ dX12_turn_5 (fun H locs w => ?_)
  refine lv_if_eq (tgt := 32) hx hb dX12_turn_8 (by decide) (fun _ => ?_) (fun c1 => absurd c1 (by decide))
  refine lv_iconst (v := (-1)) hx hb dX12_turn_32 (by decide) ?_
  exact e_i F w hr hlocks ⟨rfl, rfl⟩ dX12_turn_33
set_option maxRecDepth 8000 in
theorem la_8_21 {p : Program} {l : Launch} {e : Env} {s : State} {m : MethodId} {below : List Frame} {meth : Method} {c : Code} {D : va_G} {B b : Nat} {cy : Nat → ClassId} {H : Heap} {locs : List Loc} {ls : Array Slot} {xs : Nat → Int32} {Q : State → Prop} (F : CallFix p m c code 4 s #[Value.ref b] TB RL) (hX : va_X b 6 xs s s.heap) (hbl : b < s.heap.size) (hbA : ¬ B ≤ b) (w : Wd D B cy s s.heap M0 H locs) (hl : lv_has ls 4 [(3, .int 0), (2, .ref (B + 146)), (1, .ref (B + 0)), (0, .ref b)]) (h0 : ¬ (xs 1) < 0) (h1 : 0 ≤ (xs 1)) (h2 : (-1) < (xs 1)) (kk : ∀ (M1 : Mem) (H1 : Heap) (locs1 : List Loc), Wd D B cy s s.heap M1 H1 locs1 → W p l e room_1 s m #[Value.ref b] below meth c H1 locs1 159 13107 Q (F0 m 1065 ls [])) : W p l e room_1 s m #[Value.ref b] below meth c H locs 159 13107 Q (F0 m 398 ls []) := by
  have hx := F.1
  have hb := F.2.1
  refine lv_aload_n hx hb dL_law_398 rfl (lv_at hl 2 rfl) ?_
  refine lv_aload_n hx hb dL_law_399 rfl (lv_at hl 3 rfl) ?_
  refine lv_iload_n hx hb dL_law_400 rfl (lv_at hl 0 rfl) ?_
  refine lv_iconst (v := 1) hx hb dL_law_401 (by decide) ?_
  refine lv_iadd hx hb dL_law_402 ?_
  refine r_val (v := 1) (by decide) ?_
  refine va_sld hx hb hX hbl hbA w.2.2.1 (vpi (by decide) (by decide)) dL_law_403 ?_
  refine r_val (v := xs 1) (congrArg xs (show (1 : Int32).toNatClampNeg = 1 by decide)) ?_
  refine lv_aload_n hx hb dL_law_404 rfl (lv_at hl 3 rfl) ?_
  refine lv_iload_n hx hb dL_law_405 rfl (lv_at hl 0 rfl) ?_
  refine lv_iconst (v := 2) hx hb dL_law_406 (by decide) ?_
  refine lv_iadd hx hb dL_law_407 ?_
  refine r_val (v := 2) (by decide) ?_
  refine va_sld hx hb hX hbl hbA w.2.2.1 (vpi (by decide) (by decide)) dL_law_408 ?_
  refine r_val (v := xs 2) (congrArg xs (show (2 : Int32).toNatClampNeg = 2 by decide)) ?_
  refine x_Vi F w (As := [.int (xs 1), .int (xs 2)]) (rest := []) (a := 0) (by decide) (sh_11 rfl _ _) rfl (c_X11_turn_151 h0 (rfl) h1) gv_L_50 hv_X11_turn ⟨Nat.le_of_ble_eq_true rfl, Nat.le_of_ble_eq_true rfl⟩ hl.1 rfl (Nat.le_of_ble_eq_true rfl) ⟨Nat.le_of_ble_eq_true rfl, Nat.le_of_ble_eq_true rfl⟩ dL_law_409 (fun H locs w => ?_)
  refine lv_aload_n hx hb dL_law_412 rfl (lv_at hl 1 rfl) ?_
  refine lv_aload_n hx hb dL_law_413 rfl (lv_at hl 3 rfl) ?_
  refine lv_iload_n hx hb dL_law_414 rfl (lv_at hl 0 rfl) ?_
  refine lv_iconst (v := 1) hx hb dL_law_415 (by decide) ?_
  refine lv_iadd hx hb dL_law_416 ?_
  refine r_val (v := 1) (by decide) ?_
  refine va_sld hx hb hX hbl hbA w.2.2.1 (vpi (by decide) (by decide)) dL_law_417 ?_
  refine r_val (v := xs 1) (congrArg xs (show (1 : Int32).toNatClampNeg = 1 by decide)) ?_
  refine lv_aload_n hx hb dL_law_418 rfl (lv_at hl 3 rfl) ?_
  refine lv_iload_n hx hb dL_law_419 rfl (lv_at hl 0 rfl) ?_
  refine lv_iconst (v := 2) hx hb dL_law_420 (by decide) ?_
  refine lv_iadd hx hb dL_law_421 ?_
  refine r_val (v := 2) (by decide) ?_
  refine va_sld hx hb hX hbl hbA w.2.2.1 (vpi (by decide) (by decide)) dL_law_422 ?_
  refine r_val (v := xs 2) (congrArg xs (show (2 : Int32).toNatClampNeg = 2 by decide)) ?_
  refine x_Vi F w (As := [.int (xs 1), .int (xs 2)]) (rest := [.int (-1)]) (a := 146) (by decide) (sh_12 rfl _ _) rfl (c_X12_turn_152 (rfl) h0 h2) gv_L_54 hv_X12_turn ⟨Nat.le_of_ble_eq_true rfl, Nat.le_of_ble_eq_true rfl⟩ hl.1 rfl (Nat.le_of_ble_eq_true rfl) ⟨Nat.le_of_ble_eq_true rfl, Nat.le_of_ble_eq_true rfl⟩ dL_law_423 (fun H locs w => ?_)
  refine lv_icmp_eq (tgt := 1065) hx hb dL_law_426 (by decide) (fun _ => ?_) (fun c1 => absurd c1 (by decide))
  exact kk _ _ _ w
set_option maxRecDepth 8000 in
theorem lc_8 {p : Program} {l : Launch} {e : Env} {s : State} {m : MethodId} {below : List Frame} {meth : Method} {c : Code} {D : va_G} {B b : Nat} {cy : Nat → ClassId} {H : Heap} {locs : List Loc} {ls : Array Slot} {xs : Nat → Int32} {Q : State → Prop} (F : CallFix p m c code 4 s #[Value.ref b] TB RL) (hX : va_X b 6 xs s s.heap) (hbl : b < s.heap.size) (hbA : ¬ B ≤ b) (w : Wd D B cy s s.heap M0 H locs) (hl : lv_has ls 4 [(3, .int 0), (2, .ref (B + 146)), (1, .ref (B + 0)), (0, .ref b)]) (kk : ∀ (M1 : Mem) (H1 : Heap) (locs1 : List Loc), Wd D B cy s s.heap M1 H1 locs1 → W p l e room_1 s m #[Value.ref b] below meth c H1 locs1 159 13107 Q (F0 m 1065 ls [])) : W p l e room_1 s m #[Value.ref b] below meth c H locs 159 13107 Q (F0 m 398 ls []) := by
  rcases (show (xs 1).toInt < 0 ∨ 0 ≤ (xs 1).toInt by omega) with h1 | h1
  · skip
    exact la_8_20 F hX hbl hbA w hl (by rw [Int32.lt_iff_toInt_lt, show (0 : Int32).toInt = 0 from by decide]; omega) kk
  · skip
    exact la_8_21 F hX hbl hbA w hl (by rw [Int32.lt_iff_toInt_lt, show (0 : Int32).toInt = 0 from by decide]; omega) (by rw [Int32.le_iff_toInt_le, show (0 : Int32).toInt = 0 from by decide]; omega) (by rw [Int32.lt_iff_toInt_lt, show (-1 : Int32).toInt = -1 from by decide]; omega) kk
theorem dL_law_431 : decode cL_law 431 = .ok (.aload_n 1, 1) := by decide +kernel
theorem dL_law_432 : decode cL_law 432 = .ok (.aload_n 0, 1) := by decide +kernel
theorem dL_law_433 : decode cL_law 433 = .ok (.iload_n 3, 1) := by decide +kernel
theorem dL_law_434 : decode cL_law 434 = .ok (.iconst 1, 1) := by decide +kernel
theorem dL_law_435 : decode cL_law 435 = .ok (.iadd, 1) := by decide +kernel
theorem dL_law_436 : decode cL_law 436 = .ok (.iaload, 1) := by decide +kernel
theorem dL_law_437 : decode cL_law 437 = .ok (.ifCond .eq 7, 3) := by decide +kernel
theorem dL_law_444 : decode cL_law 444 = .ok (.iconst 0, 1) := by decide +kernel
theorem dL_law_445 : decode cL_law 445 = .ok (.aload_n 0, 1) := by decide +kernel
theorem dL_law_446 : decode cL_law 446 = .ok (.iload_n 3, 1) := by decide +kernel
theorem dL_law_447 : decode cL_law 447 = .ok (.iconst 2, 1) := by decide +kernel
theorem dL_law_448 : decode cL_law 448 = .ok (.iadd, 1) := by decide +kernel
theorem dL_law_449 : decode cL_law 449 = .ok (.iaload, 1) := by decide +kernel
theorem dL_law_450 : decode cL_law 450 = .ok (.ifCond .eq 7, 3) := by decide +kernel
theorem dL_law_457 : decode cL_law 457 = .ok (.iconst 0, 1) := by decide +kernel
theorem dL_law_458 : decode cL_law 458 = .ok (.invokevirtual 55, 3) := by decide +kernel
theorem dX11_grow_0 : decode cX11_grow 0 = .ok (.aload_n 0, 1) := by decide +kernel
theorem dX11_grow_1 : decode cX11_grow 1 = .ok (.getfield 43, 3) := by decide +kernel
theorem dX11_grow_4 : decode cX11_grow 4 = .ok (.getfield 150, 3) := by decide +kernel
theorem tb_302 : Cond.fieldLink "ToneLines" 150 "ToneLines$Word" "syllables" "I" ∈ TB := tbm (tc1 (List.mem_of_getElem? (i := 139) rfl)) rfl
theorem dX11_grow_7 : decode cX11_grow 7 = .ok (.bipush 12, 2) := by decide +kernel
theorem dX11_grow_9 : decode cX11_grow 9 = .ok (.if_icmp .lt 5, 3) := by decide +kernel
theorem dX11_grow_14 : decode cX11_grow 14 = .ok (.aload_n 0, 1) := by decide +kernel
theorem dX11_grow_15 : decode cX11_grow 15 = .ok (.invokevirtual 123, 3) := by decide +kernel
theorem dX11_grow_18 : decode cX11_grow 18 = .ok (.aload_n 0, 1) := by decide +kernel
theorem dX11_grow_19 : decode cX11_grow 19 = .ok (.getfield 43, 3) := by decide +kernel
theorem dX11_grow_22 : decode cX11_grow 22 = .ok (.iload_n 1, 1) := by decide +kernel
theorem dX11_grow_23 : decode cX11_grow 23 = .ok (.iload_n 2, 1) := by decide +kernel
theorem dX11_grow_24 : decode cX11_grow 24 = .ok (.invokevirtual 153, 3) := by decide +kernel
theorem dX9_addSyllable_0 : decode cX9_addSyllable 0 = .ok (.aload_n 0, 1) := by decide +kernel
theorem dX9_addSyllable_1 : decode cX9_addSyllable 1 = .ok (.getfield 15, 3) := by decide +kernel
theorem dX9_addSyllable_4 : decode cX9_addSyllable 4 = .ok (.bipush 12, 2) := by decide +kernel
theorem dX9_addSyllable_6 : decode cX9_addSyllable 6 = .ok (.if_icmp .ge 25, 3) := by decide +kernel
theorem dX9_addSyllable_9 : decode cX9_addSyllable 9 = .ok (.aload_n 0, 1) := by decide +kernel
theorem dX9_addSyllable_10 : decode cX9_addSyllable 10 = .ok (.dup, 1) := by decide +kernel
theorem dX9_addSyllable_11 : decode cX9_addSyllable 11 = .ok (.getfield 15, 3) := by decide +kernel
theorem dX9_addSyllable_14 : decode cX9_addSyllable 14 = .ok (.iconst 1, 1) := by decide +kernel
theorem dX9_addSyllable_15 : decode cX9_addSyllable 15 = .ok (.iadd, 1) := by decide +kernel
theorem dX9_addSyllable_16 : decode cX9_addSyllable 16 = .ok (.putfield 15, 3) := by decide +kernel
theorem dX9_addSyllable_19 : decode cX9_addSyllable 19 = .ok (.aload_n 0, 1) := by decide +kernel
theorem dX9_addSyllable_20 : decode cX9_addSyllable 20 = .ok (.aload_n 0, 1) := by decide +kernel
theorem dX9_addSyllable_21 : decode cX9_addSyllable 21 = .ok (.getfield 15, 3) := by decide +kernel
theorem dX9_addSyllable_24 : decode cX9_addSyllable 24 = .ok (.iconst 1, 1) := by decide +kernel
theorem dX9_addSyllable_25 : decode cX9_addSyllable 25 = .ok (.isub, 1) := by decide +kernel
theorem dX9_addSyllable_26 : decode cX9_addSyllable 26 = .ok (.iload_n 1, 1) := by decide +kernel
theorem dX9_addSyllable_27 : decode cX9_addSyllable 27 = .ok (.iload_n 2, 1) := by decide +kernel
theorem dX9_addSyllable_28 : decode cX9_addSyllable 28 = .ok (.invokevirtual 56, 3) := by decide +kernel
theorem dX9_setSyllable_0 : decode cX9_setSyllable 0 = .ok (.iconst 1, 1) := by decide +kernel
theorem dX9_setSyllable_1 : decode cX9_setSyllable 1 = .ok (.iload_n 1, 1) := by decide +kernel
theorem dX9_setSyllable_2 : decode cX9_setSyllable 2 = .ok (.ishl, 1) := by decide +kernel
theorem dX9_setSyllable_3 : decode cX9_setSyllable 3 = .ok (.istore 4, 2) := by decide +kernel
theorem dX9_setSyllable_5 : decode cX9_setSyllable 5 = .ok (.aload_n 0, 1) := by decide +kernel
theorem dX9_setSyllable_6 : decode cX9_setSyllable 6 = .ok (.iload_n 2, 1) := by decide +kernel
theorem dX9_setSyllable_7 : decode cX9_setSyllable 7 = .ok (.ifCond .eq 13, 3) := by decide +kernel
theorem dX9_setSyllable_20 : decode cX9_setSyllable 20 = .ok (.aload_n 0, 1) := by decide +kernel
theorem dX9_setSyllable_21 : decode cX9_setSyllable 21 = .ok (.getfield 18, 3) := by decide +kernel
theorem dX9_setSyllable_24 : decode cX9_setSyllable 24 = .ok (.iload 4, 2) := by decide +kernel
theorem dX9_setSyllable_26 : decode cX9_setSyllable 26 = .ok (.iconst (-1), 1) := by decide +kernel
theorem dX9_setSyllable_27 : decode cX9_setSyllable 27 = .ok (.ixor, 1) := by decide +kernel
theorem dX9_setSyllable_28 : decode cX9_setSyllable 28 = .ok (.iand, 1) := by decide +kernel
theorem dX9_setSyllable_29 : decode cX9_setSyllable 29 = .ok (.putfield 18, 3) := by decide +kernel
theorem dX9_setSyllable_32 : decode cX9_setSyllable 32 = .ok (.aload_n 0, 1) := by decide +kernel
theorem dX9_setSyllable_33 : decode cX9_setSyllable 33 = .ok (.iload_n 3, 1) := by decide +kernel
theorem dX9_setSyllable_34 : decode cX9_setSyllable 34 = .ok (.ifCond .eq 13, 3) := by decide +kernel
theorem dX9_setSyllable_47 : decode cX9_setSyllable 47 = .ok (.aload_n 0, 1) := by decide +kernel
theorem dX9_setSyllable_48 : decode cX9_setSyllable 48 = .ok (.getfield 21, 3) := by decide +kernel
theorem dX9_setSyllable_51 : decode cX9_setSyllable 51 = .ok (.iload 4, 2) := by decide +kernel
theorem dX9_setSyllable_53 : decode cX9_setSyllable 53 = .ok (.iconst (-1), 1) := by decide +kernel
theorem dX9_setSyllable_54 : decode cX9_setSyllable 54 = .ok (.ixor, 1) := by decide +kernel
theorem dX9_setSyllable_55 : decode cX9_setSyllable 55 = .ok (.iand, 1) := by decide +kernel
theorem dX9_setSyllable_56 : decode cX9_setSyllable 56 = .ok (.putfield 21, 3) := by decide +kernel
theorem dX9_setSyllable_59 : decode cX9_setSyllable 59 = .ok (.return_, 1) := by decide +kernel
set_option maxRecDepth 4000 in
theorem c_X9_setSyllable_153 {l : Launch} {D : va_G} {B : Nat} {cy : Nat → ClassId} {M : Mem} (h0 : M.1 44 2 = 0) (h1 : M.1 44 3 = 0) : Cv l D B cy yX9_setSyllable cX9_setSyllable 5 0 0 [.ref (B + 44), .int 0, .int 0, .int 0] M (fun M1 => M1 = M) := by
  refine s_any (by decide) (Nat.le_of_ble_eq_true rfl) ?_
  intro p e s m below meth c ls F hr hlocks w hl
  have F : CallFix p m c cX9_setSyllable 5 s _ TB RX9 := F
  have hx := F.1
  have hb := F.2.1
  have hl : lv_has ls 5 [(0, .ref (B + 44)), (1, .int 0), (2, .int 0), (3, .int 0)] := hl
  refine lv_iconst (v := 1) hx hb dX9_setSyllable_0 (by decide) ?_
  refine lv_iload_n hx hb dX9_setSyllable_1 rfl (lv_at hl 1 rfl) ?_
  refine lv_ishl hx hb dX9_setSyllable_2 ?_
  refine r_val (v := 1) (by decide) ?_
  refine lv_istore (lv' := [(4, .int 1), (0, .ref (B + 44)), (1, .int 0), (2, .int 0), (3, .int 0)]) hx hb dX9_setSyllable_3 hl (by decide) rfl (fun ls hl => ?_)
  refine lv_aload_n hx hb dX9_setSyllable_5 rfl (lv_at hl 1 rfl) ?_
  refine lv_iload_n hx hb dX9_setSyllable_6 rfl (lv_at hl 3 rfl) ?_
  refine lv_if_eq (tgt := 20) hx hb dX9_setSyllable_7 (by decide) (fun _ => ?_) (fun c1 => absurd c1 (by decide))
  refine lv_aload_n hx hb dX9_setSyllable_20 rfl (lv_at hl 1 rfl) ?_
  refine f_9_2 F w (a := 44) rfl tb_65 dX9_setSyllable_21 ?_
  refine r_val (v := 0) (h0) ?_
  refine lv_iload hx hb dX9_setSyllable_24 (lv_at hl 0 rfl) ?_
  refine lv_iconst (v := (-1)) hx hb dX9_setSyllable_26 (by decide) ?_
  refine lv_ixor hx hb dX9_setSyllable_27 ?_
  refine r_val (v := (-2)) (by decide) ?_
  refine lv_iand hx hb dX9_setSyllable_28 ?_
  refine r_val (v := 0) (by decide) ?_
  refine u_9_2 F w (a := 44) rfl tb_65 dX9_setSyllable_29 (fun H locs w => ?_)
  rw [st_same (h0)] at w
  refine lv_aload_n hx hb dX9_setSyllable_32 rfl (lv_at hl 1 rfl) ?_
  refine lv_iload_n hx hb dX9_setSyllable_33 rfl (lv_at hl 4 rfl) ?_
  refine lv_if_eq (tgt := 47) hx hb dX9_setSyllable_34 (by decide) (fun _ => ?_) (fun c1 => absurd c1 (by decide))
  refine lv_aload_n hx hb dX9_setSyllable_47 rfl (lv_at hl 1 rfl) ?_
  refine f_9_3 F w (a := 44) rfl tb_66 dX9_setSyllable_48 ?_
  refine r_val (v := 0) (h1) ?_
  refine lv_iload hx hb dX9_setSyllable_51 (lv_at hl 0 rfl) ?_
  refine lv_iconst (v := (-1)) hx hb dX9_setSyllable_53 (by decide) ?_
  refine lv_ixor hx hb dX9_setSyllable_54 ?_
  refine r_val (v := (-2)) (by decide) ?_
  refine lv_iand hx hb dX9_setSyllable_55 ?_
  refine r_val (v := 0) (by decide) ?_
  refine u_9_3 F w (a := 44) rfl tb_66 dX9_setSyllable_56 (fun H locs w => ?_)
  rw [st_same (h1)] at w
  exact e_v F w hr hlocks rfl dX9_setSyllable_59
theorem tk_X9_setSyllable : Cond.code yX9_setSyllable cX9_setSyllable 5 none ∈ TB := tbm (tc2 (List.mem_of_getElem? (i := 226) rfl)) rfl
theorem gc_X9_setSyllable : GoodIn TB (cw yX9_setSyllable cX9_setSyllable 5 none) := goodIn_c2 tk_X9_setSyllable
theorem tb_303 : Cond.methodLink "ToneLines$Word" 56 yX9_setSyllable ∈ TB := tbm (tc2 (List.mem_of_getElem? (i := 223) rfl)) rfl
theorem tb_304 : Cond.instanceMethod yX9_setSyllable ∈ TB := tbm (tc2 (List.mem_of_getElem? (i := 224) rfl)) rfl
theorem tb_305 : Cond.selects "ToneLines$Word" yX9_setSyllable yX9_setSyllable ∈ TB := tbm (tc2 (List.mem_of_getElem? (i := 225) rfl)) rfl
theorem gv_X9_56 : GoodIn TB (wsV RX9 56 RX9 yX9_setSyllable (cw yX9_setSyllable cX9_setSyllable 5 none)) := goodIn_4 tb_303 tb_304 tb_305 tb_61 gc_X9_setSyllable
theorem hv_X9_setSyllable : yX9_setSyllable.cls = RX9 ∧ yX9_setSyllable.cls ≠ "java/lang/invoke/MethodHandle" ∧ yX9_setSyllable.cls ≠ "java/lang/invoke/VarHandle" ∧ (parseMethodDescriptor yX9_setSyllable.desc).map (fun d => d.parameters.length) = some 3 := by decide +kernel
theorem dX9_addSyllable_31 : decode cX9_addSyllable 31 = .ok (.return_, 1) := by decide +kernel
set_option maxRecDepth 4000 in
theorem c_X9_addSyllable_154 {l : Launch} {D : va_G} {B : Nat} {cy : Nat → ClassId} {M : Mem} (h0 : M.1 44 1 = 0) (h1 : M.1 44 2 = 0) (h2 : M.1 44 3 = 0) : Cv l D B cy yX9_addSyllable cX9_addSyllable 3 1 24 [.ref (B + 44), .int 0, .int 0] M (fun M1 => M1 = (st M 44 1 1)) := by
  refine s_any (by decide) (Nat.le_of_ble_eq_true rfl) ?_
  intro p e s m below meth c ls F hr hlocks w hl
  have F : CallFix p m c cX9_addSyllable 3 s _ TB RX9 := F
  have hx := F.1
  have hb := F.2.1
  have hl : lv_has ls 3 [(0, .ref (B + 44)), (1, .int 0), (2, .int 0)] := hl
  refine lv_aload_n hx hb dX9_addSyllable_0 rfl (lv_at hl 0 rfl) ?_
  refine f_9_1 F w (a := 44) rfl tb_64 dX9_addSyllable_1 ?_
  refine r_val (v := 0) (h0) ?_
  refine lv_bipush (v := 12) hx hb dX9_addSyllable_4 (by decide) ?_
  refine lv_icmp_ge (tgt := 31) hx hb dX9_addSyllable_6 (by decide) (fun c1 => absurd c1 (by decide)) (fun _ => ?_)
  refine lv_aload_n hx hb dX9_addSyllable_9 rfl (lv_at hl 0 rfl) ?_
  refine lv_dup hx hb dX9_addSyllable_10 rfl ?_
  refine f_9_1 F w (a := 44) rfl tb_64 dX9_addSyllable_11 ?_
  refine r_val (v := 0) (h0) ?_
  refine lv_iconst (v := 1) hx hb dX9_addSyllable_14 (by decide) ?_
  refine lv_iadd hx hb dX9_addSyllable_15 ?_
  refine r_val (v := 1) (by decide) ?_
  refine u_9_1 F w (a := 44) rfl tb_64 dX9_addSyllable_16 (fun H locs w => ?_)
  refine lv_aload_n hx hb dX9_addSyllable_19 rfl (lv_at hl 0 rfl) ?_
  refine lv_aload_n hx hb dX9_addSyllable_20 rfl (lv_at hl 0 rfl) ?_
  refine f_9_1 F w (a := 44) rfl tb_64 dX9_addSyllable_21 ?_
  refine r_val (v := 1) (st_at) ?_
  refine lv_iconst (v := 1) hx hb dX9_addSyllable_24 (by decide) ?_
  refine lv_isub hx hb dX9_addSyllable_25 ?_
  refine r_val (v := 0) (by decide) ?_
  refine lv_iload_n hx hb dX9_addSyllable_26 rfl (lv_at hl 1 rfl) ?_
  refine lv_iload_n hx hb dX9_addSyllable_27 rfl (lv_at hl 2 rfl) ?_
  refine x_Vv F w (As := [.int 0, .int 0, .int 0]) (rest := []) (a := 44) (by decide) (sh_9 rfl _ _) rfl (c_X9_setSyllable_153 ((st_ne (by decide)).trans h1) ((st_ne (by decide)).trans h2)) gv_X9_56 hv_X9_setSyllable ⟨Nat.le_of_ble_eq_true rfl, Nat.le_of_ble_eq_true rfl⟩ hl.1 rfl (Nat.le_of_ble_eq_true rfl) ⟨Nat.zero_le _, Nat.zero_le _⟩ dX9_addSyllable_28 (fun H locs w => ?_)
  exact e_v F w hr hlocks rfl dX9_addSyllable_31
theorem tk_X9_addSyllable : Cond.code yX9_addSyllable cX9_addSyllable 3 none ∈ TB := tbm (tc2 (List.mem_of_getElem? (i := 222) rfl)) rfl
theorem gc_X9_addSyllable : GoodIn TB (cw yX9_addSyllable cX9_addSyllable 3 none) := goodIn_c2 tk_X9_addSyllable
theorem tb_306 : Cond.methodLink "ToneLines" 153 yX9_addSyllable ∈ TB := tbm (tc3 (List.mem_of_getElem? (i := 181) rfl)) rfl
theorem tb_307 : Cond.instanceMethod yX9_addSyllable ∈ TB := tbm (tc2 (List.mem_of_getElem? (i := 220) rfl)) rfl
theorem tb_308 : Cond.selects "ToneLines$Word" yX9_addSyllable yX9_addSyllable ∈ TB := tbm (tc2 (List.mem_of_getElem? (i := 221) rfl)) rfl
theorem gv_X11_153 : GoodIn TB (wsV RX11 153 RX9 yX9_addSyllable (cw yX9_addSyllable cX9_addSyllable 3 none)) := goodIn_4 tb_306 tb_307 tb_308 tb_61 gc_X9_addSyllable
theorem hv_X9_addSyllable : yX9_addSyllable.cls = RX9 ∧ yX9_addSyllable.cls ≠ "java/lang/invoke/MethodHandle" ∧ yX9_addSyllable.cls ≠ "java/lang/invoke/VarHandle" ∧ (parseMethodDescriptor yX9_addSyllable.desc).map (fun d => d.parameters.length) = some 2 := by decide +kernel
theorem dX11_grow_27 : decode cX11_grow 27 = .ok (.iconst 1, 1) := by decide +kernel
theorem dX11_grow_28 : decode cX11_grow 28 = .ok (.ireturn, 1) := by decide +kernel
set_option maxRecDepth 4000 in
theorem c_X11_grow_155 {l : Launch} {D : va_G} {B : Nat} {cy : Nat → ClassId} {M : Mem} (h0 : M.1 44 1 = 0) (h1 : M.1 71 1 = 0) (h2 : M.1 73 1 = 0) (h3 : M.1 44 2 = 0) (h4 : M.1 73 2 = 0) (h5 : M.1 44 3 = 0) (h6 : M.1 73 3 = 0) (h7 : M.1 44 0 = 0) (h8 : M.1 73 0 = 0) (h9 : ∀ k, k < 12 → M.1 45 k = 0) (h10 : ∀ k, k < 12 → M.1 74 k = 0) (h11 : ∀ k, k < 12 → M.1 46 k = 0) (h12 : ∀ k, k < 12 → M.1 75 k = 0) (h13 : M.1 71 2 = 0) (h14 : M.1 22 7 = 0) (h15 : M.1 109 0 = 0) (h16 : M.1 135 0 = 0) : Ci l D B cy yX11_grow cX11_grow 3 (some .boolean) 4 102 [.ref (B + 0), .int 0, .int 0] M (fun r M1 => r = 1 ∧ M1 = (st (st (st M 71 1 1) 71 2 1) 44 1 1)) := by
  refine s_any (by decide) (Nat.le_of_ble_eq_true rfl) ?_
  intro p e s m below meth c ls F hr hlocks w hl
  have F : CallFix p m c cX11_grow 3 s _ TB RX11 := F
  have hx := F.1
  have hb := F.2.1
  have hl : lv_has ls 3 [(0, .ref (B + 0)), (1, .int 0), (2, .int 0)] := hl
  refine lv_aload_n hx hb dX11_grow_0 rfl (lv_at hl 0 rfl) ?_
  refine f_11_4 F w (a := 0) rfl tb_75 dX11_grow_1 ?_
  refine f_9_1 F w (a := 44) rfl tb_302 dX11_grow_4 ?_
  refine r_val (v := 0) (h0) ?_
  refine lv_bipush (v := 12) hx hb dX11_grow_7 (by decide) ?_
  refine lv_icmp_lt (tgt := 14) hx hb dX11_grow_9 (by decide) (fun _ => ?_) (fun c1 => absurd c1 (by decide))
  refine lv_aload_n hx hb dX11_grow_14 rfl (lv_at hl 0 rfl) ?_
  refine x_Vv F w (As := []) (rest := []) (a := 0) (by decide) (sh_11 rfl _ _) rfl (c_X11_beginAct_120 (h1) (h0) (h2) (h3) (h4) (h5) (h6) (h7) (h8) (fun k hk => (h9 k hk)) (fun k hk => (h10 k hk)) (fun k hk => (h11 k hk)) (fun k hk => (h12 k hk)) (h13) (h14) (h15) (h16)) gv_X11_123 hv_X11_beginAct ⟨Nat.le_of_ble_eq_true rfl, Nat.le_of_ble_eq_true rfl⟩ hl.1 rfl (Nat.le_of_ble_eq_true rfl) ⟨Nat.zero_le _, Nat.zero_le _⟩ dX11_grow_15 (fun H locs w => ?_)
  refine lv_aload_n hx hb dX11_grow_18 rfl (lv_at hl 0 rfl) ?_
  refine f_11_4 F w (a := 0) rfl tb_75 dX11_grow_19 ?_
  refine lv_iload_n hx hb dX11_grow_22 rfl (lv_at hl 1 rfl) ?_
  refine lv_iload_n hx hb dX11_grow_23 rfl (lv_at hl 2 rfl) ?_
  refine x_Vv F w (As := [.int 0, .int 0]) (rest := []) (a := 44) (by decide) (sh_9 rfl _ _) rfl (c_X9_addSyllable_154 ((st_ne (by decide)).trans ((st_ne (by decide)).trans h0)) ((st_ne (by decide)).trans ((st_ne (by decide)).trans h3)) ((st_ne (by decide)).trans ((st_ne (by decide)).trans h5))) gv_X11_153 hv_X9_addSyllable ⟨Nat.le_of_ble_eq_true rfl, Nat.le_of_ble_eq_true rfl⟩ hl.1 rfl (Nat.le_of_ble_eq_true rfl) ⟨Nat.zero_le _, Nat.zero_le _⟩ dX11_grow_24 (fun H locs w => ?_)
  refine lv_iconst (v := 1) hx hb dX11_grow_27 (by decide) ?_
  exact e_z F w hr hlocks (by decide) ⟨rfl, rfl⟩ dX11_grow_28
theorem tk_X11_grow : Cond.code yX11_grow cX11_grow 3 (some .boolean) ∈ TB := tbm (tc3 (List.mem_of_getElem? (i := 180) rfl)) rfl
theorem gc_X11_grow : GoodIn TB (cw yX11_grow cX11_grow 3 (some .boolean)) := goodIn_c2 tk_X11_grow
theorem tb_309 : Cond.methodLink "ToneLinesLaw" 55 yX11_grow ∈ TB := tbm (tc3 (List.mem_of_getElem? (i := 177) rfl)) rfl
theorem tb_310 : Cond.instanceMethod yX11_grow ∈ TB := tbm (tc3 (List.mem_of_getElem? (i := 178) rfl)) rfl
theorem tb_311 : Cond.selects "ToneLines" yX11_grow yX11_grow ∈ TB := tbm (tc3 (List.mem_of_getElem? (i := 179) rfl)) rfl
theorem gv_L_55 : GoodIn TB (wsV RL 55 RX11 yX11_grow (cw yX11_grow cX11_grow 3 (some .boolean))) := goodIn_4 tb_309 tb_310 tb_311 tb_145 gc_X11_grow
theorem hv_X11_grow : yX11_grow.cls = RX11 ∧ yX11_grow.cls ≠ "java/lang/invoke/MethodHandle" ∧ yX11_grow.cls ≠ "java/lang/invoke/VarHandle" ∧ (parseMethodDescriptor yX11_grow.desc).map (fun d => d.parameters.length) = some 2 := by decide +kernel
theorem dL_law_461 : decode cL_law 461 = .ok (.aload_n 2, 1) := by decide +kernel
theorem dL_law_462 : decode cL_law 462 = .ok (.aload_n 0, 1) := by decide +kernel
theorem dL_law_463 : decode cL_law 463 = .ok (.iload_n 3, 1) := by decide +kernel
theorem dL_law_464 : decode cL_law 464 = .ok (.iconst 1, 1) := by decide +kernel
theorem dL_law_465 : decode cL_law 465 = .ok (.iadd, 1) := by decide +kernel
theorem dL_law_466 : decode cL_law 466 = .ok (.iaload, 1) := by decide +kernel
theorem dL_law_467 : decode cL_law 467 = .ok (.ifCond .eq 7, 3) := by decide +kernel
theorem dL_law_474 : decode cL_law 474 = .ok (.iconst 0, 1) := by decide +kernel
theorem dL_law_475 : decode cL_law 475 = .ok (.aload_n 0, 1) := by decide +kernel
theorem dL_law_476 : decode cL_law 476 = .ok (.iload_n 3, 1) := by decide +kernel
theorem dL_law_477 : decode cL_law 477 = .ok (.iconst 2, 1) := by decide +kernel
theorem dL_law_478 : decode cL_law 478 = .ok (.iadd, 1) := by decide +kernel
theorem dL_law_479 : decode cL_law 479 = .ok (.iaload, 1) := by decide +kernel
theorem dL_law_480 : decode cL_law 480 = .ok (.ifCond .eq 7, 3) := by decide +kernel
theorem dL_law_487 : decode cL_law 487 = .ok (.iconst 0, 1) := by decide +kernel
theorem dL_law_488 : decode cL_law 488 = .ok (.invokevirtual 59, 3) := by decide +kernel
theorem dX12_grow_0 : decode cX12_grow 0 = .ok (.aload_n 0, 1) := by decide +kernel
theorem dX12_grow_1 : decode cX12_grow 1 = .ok (.getfield 13, 3) := by decide +kernel
theorem dX12_grow_4 : decode cX12_grow 4 = .ok (.bipush 25, 2) := by decide +kernel
theorem dX12_grow_6 : decode cX12_grow 6 = .ok (.iaload, 1) := by decide +kernel
theorem dX12_grow_7 : decode cX12_grow 7 = .ok (.istore_n 3, 1) := by decide +kernel
theorem dX12_grow_8 : decode cX12_grow 8 = .ok (.iload_n 3, 1) := by decide +kernel
theorem dX12_grow_9 : decode cX12_grow 9 = .ok (.bipush 12, 2) := by decide +kernel
theorem dX12_grow_11 : decode cX12_grow 11 = .ok (.if_icmp .ne 5, 3) := by decide +kernel
theorem dX12_grow_16 : decode cX12_grow 16 = .ok (.aload_n 0, 1) := by decide +kernel
theorem dX12_grow_17 : decode cX12_grow 17 = .ok (.invokevirtual 242, 3) := by decide +kernel
theorem dX12_grow_20 : decode cX12_grow 20 = .ok (.aload_n 0, 1) := by decide +kernel
theorem dX12_grow_21 : decode cX12_grow 21 = .ok (.getfield 13, 3) := by decide +kernel
theorem dX12_grow_24 : decode cX12_grow 24 = .ok (.bipush 25, 2) := by decide +kernel
theorem dX12_grow_26 : decode cX12_grow 26 = .ok (.dup2, 1) := by decide +kernel
theorem dX12_grow_27 : decode cX12_grow 27 = .ok (.iaload, 1) := by decide +kernel
theorem dX12_grow_28 : decode cX12_grow 28 = .ok (.iconst 1, 1) := by decide +kernel
theorem dX12_grow_29 : decode cX12_grow 29 = .ok (.iadd, 1) := by decide +kernel
theorem dX12_grow_30 : decode cX12_grow 30 = .ok (.iastore, 1) := by decide +kernel
theorem dX12_grow_31 : decode cX12_grow 31 = .ok (.aload_n 0, 1) := by decide +kernel
theorem dX12_grow_32 : decode cX12_grow 32 = .ok (.iload_n 3, 1) := by decide +kernel
theorem dX12_grow_33 : decode cX12_grow 33 = .ok (.iload_n 1, 1) := by decide +kernel
theorem dX12_grow_34 : decode cX12_grow 34 = .ok (.iload_n 2, 1) := by decide +kernel
theorem dX12_grow_35 : decode cX12_grow 35 = .ok (.invokevirtual 245, 3) := by decide +kernel
theorem dX12_marks_0 : decode cX12_marks 0 = .ok (.iconst 1, 1) := by decide +kernel
theorem dX12_marks_1 : decode cX12_marks 1 = .ok (.iload_n 1, 1) := by decide +kernel
theorem dX12_marks_2 : decode cX12_marks 2 = .ok (.ishl, 1) := by decide +kernel
theorem dX12_marks_3 : decode cX12_marks 3 = .ok (.istore 4, 2) := by decide +kernel
theorem dX12_marks_5 : decode cX12_marks 5 = .ok (.aload_n 0, 1) := by decide +kernel
theorem dX12_marks_6 : decode cX12_marks 6 = .ok (.getfield 13, 3) := by decide +kernel
theorem dX12_marks_9 : decode cX12_marks 9 = .ok (.bipush 26, 2) := by decide +kernel
theorem dX12_marks_11 : decode cX12_marks 11 = .ok (.iload_n 2, 1) := by decide +kernel
theorem dX12_marks_12 : decode cX12_marks 12 = .ok (.ifCond .eq 16, 3) := by decide +kernel
theorem dX12_marks_28 : decode cX12_marks 28 = .ok (.aload_n 0, 1) := by decide +kernel
theorem dX12_marks_29 : decode cX12_marks 29 = .ok (.getfield 13, 3) := by decide +kernel
theorem dX12_marks_32 : decode cX12_marks 32 = .ok (.bipush 26, 2) := by decide +kernel
theorem dX12_marks_34 : decode cX12_marks 34 = .ok (.iaload, 1) := by decide +kernel
theorem dX12_marks_35 : decode cX12_marks 35 = .ok (.iload 4, 2) := by decide +kernel
theorem dX12_marks_37 : decode cX12_marks 37 = .ok (.iconst (-1), 1) := by decide +kernel
theorem dX12_marks_38 : decode cX12_marks 38 = .ok (.ixor, 1) := by decide +kernel
theorem dX12_marks_39 : decode cX12_marks 39 = .ok (.iand, 1) := by decide +kernel
theorem dX12_marks_40 : decode cX12_marks 40 = .ok (.iastore, 1) := by decide +kernel
theorem dX12_marks_41 : decode cX12_marks 41 = .ok (.aload_n 0, 1) := by decide +kernel
theorem dX12_marks_42 : decode cX12_marks 42 = .ok (.getfield 13, 3) := by decide +kernel
theorem dX12_marks_45 : decode cX12_marks 45 = .ok (.bipush 27, 2) := by decide +kernel
theorem dX12_marks_47 : decode cX12_marks 47 = .ok (.iload_n 3, 1) := by decide +kernel
theorem dX12_marks_48 : decode cX12_marks 48 = .ok (.ifCond .eq 16, 3) := by decide +kernel
theorem dX12_marks_64 : decode cX12_marks 64 = .ok (.aload_n 0, 1) := by decide +kernel
theorem dX12_marks_65 : decode cX12_marks 65 = .ok (.getfield 13, 3) := by decide +kernel
theorem dX12_marks_68 : decode cX12_marks 68 = .ok (.bipush 27, 2) := by decide +kernel
theorem dX12_marks_70 : decode cX12_marks 70 = .ok (.iaload, 1) := by decide +kernel
theorem dX12_marks_71 : decode cX12_marks 71 = .ok (.iload 4, 2) := by decide +kernel
theorem dX12_marks_73 : decode cX12_marks 73 = .ok (.iconst (-1), 1) := by decide +kernel
theorem dX12_marks_74 : decode cX12_marks 74 = .ok (.ixor, 1) := by decide +kernel
theorem dX12_marks_75 : decode cX12_marks 75 = .ok (.iand, 1) := by decide +kernel
theorem dX12_marks_76 : decode cX12_marks 76 = .ok (.iastore, 1) := by decide +kernel
theorem dX12_marks_77 : decode cX12_marks 77 = .ok (.return_, 1) := by decide +kernel
set_option maxRecDepth 4000 in
theorem c_X12_marks_156 {l : Launch} {D : va_G} {B : Nat} {cy : Nat → ClassId} {M : Mem} (h0 : M.1 147 26 = 0) (h1 : M.1 147 27 = 0) : Cv l D B cy yX12_marks cX12_marks 5 0 0 [.ref (B + 146), .int 0, .int 0, .int 0] M (fun M1 => M1 = M) := by
  refine s_any (by decide) (Nat.le_of_ble_eq_true rfl) ?_
  intro p e s m below meth c ls F hr hlocks w hl
  have F : CallFix p m c cX12_marks 5 s _ TB RX12 := F
  have hx := F.1
  have hb := F.2.1
  have hl : lv_has ls 5 [(0, .ref (B + 146)), (1, .int 0), (2, .int 0), (3, .int 0)] := hl
  refine lv_iconst (v := 1) hx hb dX12_marks_0 (by decide) ?_
  refine lv_iload_n hx hb dX12_marks_1 rfl (lv_at hl 1 rfl) ?_
  refine lv_ishl hx hb dX12_marks_2 ?_
  refine r_val (v := 1) (by decide) ?_
  refine lv_istore (lv' := [(4, .int 1), (0, .ref (B + 146)), (1, .int 0), (2, .int 0), (3, .int 0)]) hx hb dX12_marks_3 hl (by decide) rfl (fun ls hl => ?_)
  refine lv_aload_n hx hb dX12_marks_5 rfl (lv_at hl 1 rfl) ?_
  refine f_12_1 F w (a := 146) rfl tb_126 dX12_marks_6 ?_
  refine lv_bipush (v := 26) hx hb dX12_marks_9 (by decide) ?_
  refine lv_iload_n hx hb dX12_marks_11 rfl (lv_at hl 3 rfl) ?_
  refine lv_if_eq (tgt := 28) hx hb dX12_marks_12 (by decide) (fun _ => ?_) (fun c1 => absurd c1 (by decide))
  refine lv_aload_n hx hb dX12_marks_28 rfl (lv_at hl 1 rfl) ?_
  refine f_12_1 F w (a := 146) rfl tb_126 dX12_marks_29 ?_
  refine lv_bipush (v := 26) hx hb dX12_marks_32 (by decide) ?_
  refine g_iald F w (a := 147) rfl (j := 26) ⟨by decide, by decide⟩ (by decide) dX12_marks_34 ?_
  refine r_val (v := 0) (h0) ?_
  refine lv_iload hx hb dX12_marks_35 (lv_at hl 0 rfl) ?_
  refine lv_iconst (v := (-1)) hx hb dX12_marks_37 (by decide) ?_
  refine lv_ixor hx hb dX12_marks_38 ?_
  refine r_val (v := (-2)) (by decide) ?_
  refine lv_iand hx hb dX12_marks_39 ?_
  refine r_val (v := 0) (by decide) ?_
  refine g_iast F w (a := 147) rfl (j := 26) ⟨by decide, by decide⟩ (by decide) dX12_marks_40 (fun H locs w => ?_)
  rw [st_same (h0)] at w
  refine lv_aload_n hx hb dX12_marks_41 rfl (lv_at hl 1 rfl) ?_
  refine f_12_1 F w (a := 146) rfl tb_126 dX12_marks_42 ?_
  refine lv_bipush (v := 27) hx hb dX12_marks_45 (by decide) ?_
  refine lv_iload_n hx hb dX12_marks_47 rfl (lv_at hl 4 rfl) ?_
  refine lv_if_eq (tgt := 64) hx hb dX12_marks_48 (by decide) (fun _ => ?_) (fun c1 => absurd c1 (by decide))
  refine lv_aload_n hx hb dX12_marks_64 rfl (lv_at hl 1 rfl) ?_
  refine f_12_1 F w (a := 146) rfl tb_126 dX12_marks_65 ?_
  refine lv_bipush (v := 27) hx hb dX12_marks_68 (by decide) ?_
  refine g_iald F w (a := 147) rfl (j := 27) ⟨by decide, by decide⟩ (by decide) dX12_marks_70 ?_
  refine r_val (v := 0) (h1) ?_
  refine lv_iload hx hb dX12_marks_71 (lv_at hl 0 rfl) ?_
  refine lv_iconst (v := (-1)) hx hb dX12_marks_73 (by decide) ?_
  refine lv_ixor hx hb dX12_marks_74 ?_
  refine r_val (v := (-2)) (by decide) ?_
  refine lv_iand hx hb dX12_marks_75 ?_
  refine r_val (v := 0) (by decide) ?_
  refine g_iast F w (a := 147) rfl (j := 27) ⟨by decide, by decide⟩ (by decide) dX12_marks_76 (fun H locs w => ?_)
  rw [st_same (h1)] at w
  exact e_v F w hr hlocks rfl dX12_marks_77
theorem tk_X12_marks : Cond.code yX12_marks cX12_marks 5 none ∈ TB := tbm (tc6 (List.mem_of_getElem? (i := 36) rfl)) rfl
theorem gc_X12_marks : GoodIn TB (cw yX12_marks cX12_marks 5 none) := goodIn_c2 tk_X12_marks
theorem tb_312 : Cond.methodLink "ToneLinesModel" 245 yX12_marks ∈ TB := tbm (tc6 (List.mem_of_getElem? (i := 33) rfl)) rfl
theorem tb_313 : Cond.instanceMethod yX12_marks ∈ TB := tbm (tc6 (List.mem_of_getElem? (i := 35) rfl)) rfl
theorem tb_314 : Cond.selects "ToneLinesModel" yX12_marks yX12_marks ∈ TB := tbp (List.mem_of_getElem? (i := 51) rfl) rfl
theorem gv_X12_245 : GoodIn TB (wsV RX12 245 RX12 yX12_marks (cw yX12_marks cX12_marks 5 none)) := goodIn_4 tb_312 tb_313 tb_314 tb_150 gc_X12_marks
theorem hv_X12_marks : yX12_marks.cls = RX12 ∧ yX12_marks.cls ≠ "java/lang/invoke/MethodHandle" ∧ yX12_marks.cls ≠ "java/lang/invoke/VarHandle" ∧ (parseMethodDescriptor yX12_marks.desc).map (fun d => d.parameters.length) = some 3 := by decide +kernel
theorem dX12_grow_38 : decode cX12_grow 38 = .ok (.iconst 1, 1) := by decide +kernel
theorem dX12_grow_39 : decode cX12_grow 39 = .ok (.ireturn, 1) := by decide +kernel
set_option maxRecDepth 4000 in
theorem c_X12_grow_157 {l : Launch} {D : va_G} {B : Nat} {cy : Nat → ClassId} {M : Mem} (h0 : M.1 147 25 = 0) (h1 : M.1 146 20 = 0) (h2 : M.1 147 0 = 0) (h3 : M.1 155 0 = 0) (h4 : M.1 147 1 = 0) (h5 : M.1 155 1 = 0) (h6 : M.1 147 2 = 0) (h7 : M.1 155 2 = 0) (h8 : M.1 147 3 = 0) (h9 : M.1 155 3 = 0) (h10 : M.1 147 4 = 0) (h11 : M.1 155 4 = 0) (h12 : M.1 147 5 = 0) (h13 : M.1 155 5 = 0) (h14 : M.1 147 6 = 0) (h15 : M.1 155 6 = 0) (h16 : M.1 147 7 = 0) (h17 : M.1 155 7 = 0) (h18 : M.1 147 8 = 0) (h19 : M.1 155 8 = 0) (h20 : M.1 147 9 = 0) (h21 : M.1 155 9 = 0) (h22 : M.1 147 10 = 0) (h23 : M.1 155 10 = 0) (h24 : M.1 147 11 = 0) (h25 : M.1 155 11 = 0) (h26 : M.1 147 12 = 0) (h27 : M.1 155 12 = 0) (h28 : M.1 147 13 = 0) (h29 : M.1 155 13 = 0) (h30 : M.1 147 14 = 0) (h31 : M.1 155 14 = 0) (h32 : M.1 147 15 = 0) (h33 : M.1 155 15 = 0) (h34 : M.1 147 16 = 0) (h35 : M.1 155 16 = 0) (h36 : M.1 147 17 = 0) (h37 : M.1 155 17 = 0) (h38 : M.1 147 18 = 0) (h39 : M.1 155 18 = 0) (h40 : M.1 147 19 = 0) (h41 : M.1 155 19 = 0) (h42 : M.1 147 20 = 0) (h43 : M.1 155 20 = 0) (h44 : M.1 147 21 = 0) (h45 : M.1 155 21 = 0) (h46 : M.1 147 22 = 0) (h47 : M.1 155 22 = 0) (h48 : M.1 147 23 = 0) (h49 : M.1 155 23 = 0) (h50 : M.1 147 24 = 0) (h51 : M.1 155 24 = 0) (h52 : M.1 155 25 = 0) (h53 : M.1 147 26 = 0) (h54 : M.1 155 26 = 0) (h55 : M.1 147 27 = 0) (h56 : M.1 155 27 = 0) : Ci l D B cy yX12_grow cX12_grow 4 (some .boolean) 1 24 [.ref (B + 146), .int 0, .int 0] M (fun r M1 => r = 1 ∧ M1 = (st (st M 146 20 1) 147 25 1)) := by
  refine s_any (by decide) (Nat.le_of_ble_eq_true rfl) ?_
  intro p e s m below meth c ls F hr hlocks w hl
  have F : CallFix p m c cX12_grow 4 s _ TB RX12 := F
  have hx := F.1
  have hb := F.2.1
  have hl : lv_has ls 4 [(0, .ref (B + 146)), (1, .int 0), (2, .int 0)] := hl
  refine lv_aload_n hx hb dX12_grow_0 rfl (lv_at hl 0 rfl) ?_
  refine f_12_1 F w (a := 146) rfl tb_126 dX12_grow_1 ?_
  refine lv_bipush (v := 25) hx hb dX12_grow_4 (by decide) ?_
  refine g_iald F w (a := 147) rfl (j := 25) ⟨by decide, by decide⟩ (by decide) dX12_grow_6 ?_
  refine r_val (v := 0) (h0) ?_
  refine lv_istore_n (lv' := [(3, .int 0), (0, .ref (B + 146)), (1, .int 0), (2, .int 0)]) hx hb dX12_grow_7 rfl hl (by decide) rfl (fun ls hl => ?_)
  refine lv_iload_n hx hb dX12_grow_8 rfl (lv_at hl 0 rfl) ?_
  refine lv_bipush (v := 12) hx hb dX12_grow_9 (by decide) ?_
  refine lv_icmp_ne (tgt := 16) hx hb dX12_grow_11 (by decide) (fun _ => ?_) (fun c1 => absurd c1 (by decide))
  refine lv_aload_n hx hb dX12_grow_16 rfl (lv_at hl 1 rfl) ?_
  refine x_Vv F w (As := []) (rest := []) (a := 146) (by decide) (sh_12 rfl _ _) rfl (c_X12_keeps_124 (h1) (h2) (h3) (h4) (h5) (h6) (h7) (h8) (h9) (h10) (h11) (h12) (h13) (h14) (h15) (h16) (h17) (h18) (h19) (h20) (h21) (h22) (h23) (h24) (h25) (h26) (h27) (h28) (h29) (h30) (h31) (h32) (h33) (h34) (h35) (h36) (h37) (h38) (h39) (h40) (h41) (h42) (h43) (h44) (h45) (h46) (h47) (h48) (h49) (h50) (h51) (h0) (h52) (h53) (h54) (h55) (h56)) gv_X12_242 hv_X12_keeps ⟨Nat.le_of_ble_eq_true rfl, Nat.le_of_ble_eq_true rfl⟩ hl.1 rfl (Nat.le_of_ble_eq_true rfl) ⟨Nat.zero_le _, Nat.zero_le _⟩ dX12_grow_17 (fun H locs w => ?_)
  refine lv_aload_n hx hb dX12_grow_20 rfl (lv_at hl 1 rfl) ?_
  refine f_12_1 F w (a := 146) rfl tb_126 dX12_grow_21 ?_
  refine lv_bipush (v := 25) hx hb dX12_grow_24 (by decide) ?_
  refine lv_dup2_11 hx hb dX12_grow_26 rfl rfl ?_
  refine g_iald F w (a := 147) rfl (j := 25) ⟨by decide, by decide⟩ (by decide) dX12_grow_27 ?_
  refine r_val (v := 0) ((st_ne (by decide)).trans h0) ?_
  refine lv_iconst (v := 1) hx hb dX12_grow_28 (by decide) ?_
  refine lv_iadd hx hb dX12_grow_29 ?_
  refine r_val (v := 1) (by decide) ?_
  refine g_iast F w (a := 147) rfl (j := 25) ⟨by decide, by decide⟩ (by decide) dX12_grow_30 (fun H locs w => ?_)
  refine lv_aload_n hx hb dX12_grow_31 rfl (lv_at hl 1 rfl) ?_
  refine lv_iload_n hx hb dX12_grow_32 rfl (lv_at hl 0 rfl) ?_
  refine lv_iload_n hx hb dX12_grow_33 rfl (lv_at hl 2 rfl) ?_
  refine lv_iload_n hx hb dX12_grow_34 rfl (lv_at hl 3 rfl) ?_
  refine x_Vv F w (As := [.int 0, .int 0, .int 0]) (rest := []) (a := 146) (by decide) (sh_12 rfl _ _) rfl (c_X12_marks_156 ((st_ne (by decide)).trans ((st_ne (by decide)).trans h53)) ((st_ne (by decide)).trans ((st_ne (by decide)).trans h55))) gv_X12_245 hv_X12_marks ⟨Nat.le_of_ble_eq_true rfl, Nat.le_of_ble_eq_true rfl⟩ hl.1 rfl (Nat.le_of_ble_eq_true rfl) ⟨Nat.zero_le _, Nat.zero_le _⟩ dX12_grow_35 (fun H locs w => ?_)
  refine lv_iconst (v := 1) hx hb dX12_grow_38 (by decide) ?_
  exact e_z F w hr hlocks (by decide) ⟨rfl, rfl⟩ dX12_grow_39
theorem tk_X12_grow : Cond.code yX12_grow cX12_grow 4 (some .boolean) ∈ TB := tbm (tc6 (List.mem_of_getElem? (i := 32) rfl)) rfl
theorem gc_X12_grow : GoodIn TB (cw yX12_grow cX12_grow 4 (some .boolean)) := goodIn_c2 tk_X12_grow
theorem tb_315 : Cond.methodLink "ToneLinesLaw" 59 yX12_grow ∈ TB := tbm (tc6 (List.mem_of_getElem? (i := 29) rfl)) rfl
theorem tb_316 : Cond.instanceMethod yX12_grow ∈ TB := tbm (tc6 (List.mem_of_getElem? (i := 30) rfl)) rfl
theorem tb_317 : Cond.selects "ToneLinesModel" yX12_grow yX12_grow ∈ TB := tbm (tc6 (List.mem_of_getElem? (i := 31) rfl)) rfl
theorem gv_L_59 : GoodIn TB (wsV RL 59 RX12 yX12_grow (cw yX12_grow cX12_grow 4 (some .boolean))) := goodIn_4 tb_315 tb_316 tb_317 tb_150 gc_X12_grow
theorem hv_X12_grow : yX12_grow.cls = RX12 ∧ yX12_grow.cls ≠ "java/lang/invoke/MethodHandle" ∧ yX12_grow.cls ≠ "java/lang/invoke/VarHandle" ∧ (parseMethodDescriptor yX12_grow.desc).map (fun d => d.parameters.length) = some 2 := by decide +kernel
theorem dL_law_491 : decode cL_law 491 = .ok (.if_icmp .eq 574, 3) := by decide +kernel
set_option maxRecDepth 8000 in
theorem la_9_22 {p : Program} {l : Launch} {e : Env} {s : State} {m : MethodId} {below : List Frame} {meth : Method} {c : Code} {D : va_G} {B b : Nat} {cy : Nat → ClassId} {H : Heap} {locs : List Loc} {ls : Array Slot} {xs : Nat → Int32} {Q : State → Prop} (F : CallFix p m c code 4 s #[Value.ref b] TB RL) (hX : va_X b 6 xs s s.heap) (hbl : b < s.heap.size) (hbA : ¬ B ≤ b) (w : Wd D B cy s s.heap M0 H locs) (hl : lv_has ls 4 [(3, .int 0), (2, .ref (B + 146)), (1, .ref (B + 0)), (0, .ref b)]) (x1 : xs 1 = 0) (x2 : xs 2 = 0) (kk : ∀ (M1 : Mem) (H1 : Heap) (locs1 : List Loc), Wd D B cy s s.heap M1 H1 locs1 → W p l e room_1 s m #[Value.ref b] below meth c H1 locs1 159 13107 Q (F0 m 1065 ls [])) : W p l e room_1 s m #[Value.ref b] below meth c H locs 159 13107 Q (F0 m 431 ls []) := by
  have hx := F.1
  have hb := F.2.1
  refine lv_aload_n hx hb dL_law_431 rfl (lv_at hl 2 rfl) ?_
  refine lv_aload_n hx hb dL_law_432 rfl (lv_at hl 3 rfl) ?_
  refine lv_iload_n hx hb dL_law_433 rfl (lv_at hl 0 rfl) ?_
  refine lv_iconst (v := 1) hx hb dL_law_434 (by decide) ?_
  refine lv_iadd hx hb dL_law_435 ?_
  refine r_val (v := 1) (by decide) ?_
  refine va_sld hx hb hX hbl hbA w.2.2.1 (vpi (by decide) (by decide)) dL_law_436 ?_
  refine r_val (v := 0) ((congrArg xs (show (1 : Int32).toNatClampNeg = 1 by decide)).trans x1) ?_
  refine lv_if_eq (tgt := 444) hx hb dL_law_437 (by decide) (fun _ => ?_) (fun c1 => absurd c1 (by decide))
  refine lv_iconst (v := 0) hx hb dL_law_444 (by decide) ?_
  refine lv_aload_n hx hb dL_law_445 rfl (lv_at hl 3 rfl) ?_
  refine lv_iload_n hx hb dL_law_446 rfl (lv_at hl 0 rfl) ?_
  refine lv_iconst (v := 2) hx hb dL_law_447 (by decide) ?_
  refine lv_iadd hx hb dL_law_448 ?_
  refine r_val (v := 2) (by decide) ?_
  refine va_sld hx hb hX hbl hbA w.2.2.1 (vpi (by decide) (by decide)) dL_law_449 ?_
  refine r_val (v := 0) ((congrArg xs (show (2 : Int32).toNatClampNeg = 2 by decide)).trans x2) ?_
  refine lv_if_eq (tgt := 457) hx hb dL_law_450 (by decide) (fun _ => ?_) (fun c1 => absurd c1 (by decide))
  refine lv_iconst (v := 0) hx hb dL_law_457 (by decide) ?_
  refine x_Vi F w (As := [.int 0, .int 0]) (rest := []) (a := 0) (by decide) (sh_11 rfl _ _) rfl (c_X11_grow_155 (rfl) (rfl) (rfl) (rfl) (rfl) (rfl) (rfl) (rfl) (rfl) (fun k hk => ((fun k hk => rfl) k hk)) (fun k hk => ((fun k hk => rfl) k hk)) (fun k hk => ((fun k hk => rfl) k hk)) (fun k hk => ((fun k hk => rfl) k hk)) (rfl) (rfl) (rfl) (rfl)) gv_L_55 hv_X11_grow ⟨Nat.le_of_ble_eq_true rfl, Nat.le_of_ble_eq_true rfl⟩ hl.1 rfl (Nat.le_of_ble_eq_true rfl) ⟨Nat.le_of_ble_eq_true rfl, Nat.le_of_ble_eq_true rfl⟩ dL_law_458 (fun H locs w => ?_)
  refine lv_aload_n hx hb dL_law_461 rfl (lv_at hl 1 rfl) ?_
  refine lv_aload_n hx hb dL_law_462 rfl (lv_at hl 3 rfl) ?_
  refine lv_iload_n hx hb dL_law_463 rfl (lv_at hl 0 rfl) ?_
  refine lv_iconst (v := 1) hx hb dL_law_464 (by decide) ?_
  refine lv_iadd hx hb dL_law_465 ?_
  refine r_val (v := 1) (by decide) ?_
  refine va_sld hx hb hX hbl hbA w.2.2.1 (vpi (by decide) (by decide)) dL_law_466 ?_
  refine r_val (v := 0) ((congrArg xs (show (1 : Int32).toNatClampNeg = 1 by decide)).trans x1) ?_
  refine lv_if_eq (tgt := 474) hx hb dL_law_467 (by decide) (fun _ => ?_) (fun c1 => absurd c1 (by decide))
  refine lv_iconst (v := 0) hx hb dL_law_474 (by decide) ?_
  refine lv_aload_n hx hb dL_law_475 rfl (lv_at hl 3 rfl) ?_
  refine lv_iload_n hx hb dL_law_476 rfl (lv_at hl 0 rfl) ?_
  refine lv_iconst (v := 2) hx hb dL_law_477 (by decide) ?_
  refine lv_iadd hx hb dL_law_478 ?_
  refine r_val (v := 2) (by decide) ?_
  refine va_sld hx hb hX hbl hbA w.2.2.1 (vpi (by decide) (by decide)) dL_law_479 ?_
  refine r_val (v := 0) ((congrArg xs (show (2 : Int32).toNatClampNeg = 2 by decide)).trans x2) ?_
  refine lv_if_eq (tgt := 487) hx hb dL_law_480 (by decide) (fun _ => ?_) (fun c1 => absurd c1 (by decide))
  refine lv_iconst (v := 0) hx hb dL_law_487 (by decide) ?_
  refine x_Vi F w (As := [.int 0, .int 0]) (rest := [.int 1]) (a := 146) (by decide) (sh_12 rfl _ _) rfl (c_X12_grow_157 ((st_ne (by decide)).trans ((st_ne (by decide)).trans ((st_ne (by decide)).trans rfl))) ((st_ne (by decide)).trans ((st_ne (by decide)).trans ((st_ne (by decide)).trans rfl))) ((st_ne (by decide)).trans ((st_ne (by decide)).trans ((st_ne (by decide)).trans rfl))) ((st_ne (by decide)).trans ((st_ne (by decide)).trans ((st_ne (by decide)).trans rfl))) ((st_ne (by decide)).trans ((st_ne (by decide)).trans ((st_ne (by decide)).trans rfl))) ((st_ne (by decide)).trans ((st_ne (by decide)).trans ((st_ne (by decide)).trans rfl))) ((st_ne (by decide)).trans ((st_ne (by decide)).trans ((st_ne (by decide)).trans rfl))) ((st_ne (by decide)).trans ((st_ne (by decide)).trans ((st_ne (by decide)).trans rfl))) ((st_ne (by decide)).trans ((st_ne (by decide)).trans ((st_ne (by decide)).trans rfl))) ((st_ne (by decide)).trans ((st_ne (by decide)).trans ((st_ne (by decide)).trans rfl))) ((st_ne (by decide)).trans ((st_ne (by decide)).trans ((st_ne (by decide)).trans rfl))) ((st_ne (by decide)).trans ((st_ne (by decide)).trans ((st_ne (by decide)).trans rfl))) ((st_ne (by decide)).trans ((st_ne (by decide)).trans ((st_ne (by decide)).trans rfl))) ((st_ne (by decide)).trans ((st_ne (by decide)).trans ((st_ne (by decide)).trans rfl))) ((st_ne (by decide)).trans ((st_ne (by decide)).trans ((st_ne (by decide)).trans rfl))) ((st_ne (by decide)).trans ((st_ne (by decide)).trans ((st_ne (by decide)).trans rfl))) ((st_ne (by decide)).trans ((st_ne (by decide)).trans ((st_ne (by decide)).trans rfl))) ((st_ne (by decide)).trans ((st_ne (by decide)).trans ((st_ne (by decide)).trans rfl))) ((st_ne (by decide)).trans ((st_ne (by decide)).trans ((st_ne (by decide)).trans rfl))) ((st_ne (by decide)).trans ((st_ne (by decide)).trans ((st_ne (by decide)).trans rfl))) ((st_ne (by decide)).trans ((st_ne (by decide)).trans ((st_ne (by decide)).trans rfl))) ((st_ne (by decide)).trans ((st_ne (by decide)).trans ((st_ne (by decide)).trans rfl))) ((st_ne (by decide)).trans ((st_ne (by decide)).trans ((st_ne (by decide)).trans rfl))) ((st_ne (by decide)).trans ((st_ne (by decide)).trans ((st_ne (by decide)).trans rfl))) ((st_ne (by decide)).trans ((st_ne (by decide)).trans ((st_ne (by decide)).trans rfl))) ((st_ne (by decide)).trans ((st_ne (by decide)).trans ((st_ne (by decide)).trans rfl))) ((st_ne (by decide)).trans ((st_ne (by decide)).trans ((st_ne (by decide)).trans rfl))) ((st_ne (by decide)).trans ((st_ne (by decide)).trans ((st_ne (by decide)).trans rfl))) ((st_ne (by decide)).trans ((st_ne (by decide)).trans ((st_ne (by decide)).trans rfl))) ((st_ne (by decide)).trans ((st_ne (by decide)).trans ((st_ne (by decide)).trans rfl))) ((st_ne (by decide)).trans ((st_ne (by decide)).trans ((st_ne (by decide)).trans rfl))) ((st_ne (by decide)).trans ((st_ne (by decide)).trans ((st_ne (by decide)).trans rfl))) ((st_ne (by decide)).trans ((st_ne (by decide)).trans ((st_ne (by decide)).trans rfl))) ((st_ne (by decide)).trans ((st_ne (by decide)).trans ((st_ne (by decide)).trans rfl))) ((st_ne (by decide)).trans ((st_ne (by decide)).trans ((st_ne (by decide)).trans rfl))) ((st_ne (by decide)).trans ((st_ne (by decide)).trans ((st_ne (by decide)).trans rfl))) ((st_ne (by decide)).trans ((st_ne (by decide)).trans ((st_ne (by decide)).trans rfl))) ((st_ne (by decide)).trans ((st_ne (by decide)).trans ((st_ne (by decide)).trans rfl))) ((st_ne (by decide)).trans ((st_ne (by decide)).trans ((st_ne (by decide)).trans rfl))) ((st_ne (by decide)).trans ((st_ne (by decide)).trans ((st_ne (by decide)).trans rfl))) ((st_ne (by decide)).trans ((st_ne (by decide)).trans ((st_ne (by decide)).trans rfl))) ((st_ne (by decide)).trans ((st_ne (by decide)).trans ((st_ne (by decide)).trans rfl))) ((st_ne (by decide)).trans ((st_ne (by decide)).trans ((st_ne (by decide)).trans rfl))) ((st_ne (by decide)).trans ((st_ne (by decide)).trans ((st_ne (by decide)).trans rfl))) ((st_ne (by decide)).trans ((st_ne (by decide)).trans ((st_ne (by decide)).trans rfl))) ((st_ne (by decide)).trans ((st_ne (by decide)).trans ((st_ne (by decide)).trans rfl))) ((st_ne (by decide)).trans ((st_ne (by decide)).trans ((st_ne (by decide)).trans rfl))) ((st_ne (by decide)).trans ((st_ne (by decide)).trans ((st_ne (by decide)).trans rfl))) ((st_ne (by decide)).trans ((st_ne (by decide)).trans ((st_ne (by decide)).trans rfl))) ((st_ne (by decide)).trans ((st_ne (by decide)).trans ((st_ne (by decide)).trans rfl))) ((st_ne (by decide)).trans ((st_ne (by decide)).trans ((st_ne (by decide)).trans rfl))) ((st_ne (by decide)).trans ((st_ne (by decide)).trans ((st_ne (by decide)).trans rfl))) ((st_ne (by decide)).trans ((st_ne (by decide)).trans ((st_ne (by decide)).trans rfl))) ((st_ne (by decide)).trans ((st_ne (by decide)).trans ((st_ne (by decide)).trans rfl))) ((st_ne (by decide)).trans ((st_ne (by decide)).trans ((st_ne (by decide)).trans rfl))) ((st_ne (by decide)).trans ((st_ne (by decide)).trans ((st_ne (by decide)).trans rfl))) ((st_ne (by decide)).trans ((st_ne (by decide)).trans ((st_ne (by decide)).trans rfl)))) gv_L_59 hv_X12_grow ⟨Nat.le_of_ble_eq_true rfl, Nat.le_of_ble_eq_true rfl⟩ hl.1 rfl (Nat.le_of_ble_eq_true rfl) ⟨Nat.le_of_ble_eq_true rfl, Nat.le_of_ble_eq_true rfl⟩ dL_law_488 (fun H locs w => ?_)
  refine lv_icmp_eq (tgt := 1065) hx hb dL_law_491 (by decide) (fun _ => ?_) (fun c1 => absurd c1 (by decide))
  exact kk _ _ _ w
theorem dL_law_453 : decode cL_law 453 = .ok (.iconst 1, 1) := by decide +kernel
theorem dL_law_454 : decode cL_law 454 = .ok (.goto 4, 3) := by decide +kernel
theorem dX9_setSyllable_37 : decode cX9_setSyllable 37 = .ok (.aload_n 0, 1) := by decide +kernel
theorem dX9_setSyllable_38 : decode cX9_setSyllable 38 = .ok (.getfield 21, 3) := by decide +kernel
theorem dX9_setSyllable_41 : decode cX9_setSyllable 41 = .ok (.iload 4, 2) := by decide +kernel
theorem dX9_setSyllable_43 : decode cX9_setSyllable 43 = .ok (.ior, 1) := by decide +kernel
theorem dX9_setSyllable_44 : decode cX9_setSyllable 44 = .ok (.goto 12, 3) := by decide +kernel
set_option maxRecDepth 4000 in
theorem c_X9_setSyllable_158 {l : Launch} {D : va_G} {B : Nat} {cy : Nat → ClassId} {M : Mem} (h0 : M.1 44 2 = 0) (h1 : M.1 44 3 = 0) : Cv l D B cy yX9_setSyllable cX9_setSyllable 5 0 0 [.ref (B + 44), .int 0, .int 0, .int 1] M (fun M1 => M1 = (st M 44 3 1)) := by
  refine s_any (by decide) (Nat.le_of_ble_eq_true rfl) ?_
  intro p e s m below meth c ls F hr hlocks w hl
  have F : CallFix p m c cX9_setSyllable 5 s _ TB RX9 := F
  have hx := F.1
  have hb := F.2.1
  have hl : lv_has ls 5 [(0, .ref (B + 44)), (1, .int 0), (2, .int 0), (3, .int 1)] := hl
  refine lv_iconst (v := 1) hx hb dX9_setSyllable_0 (by decide) ?_
  refine lv_iload_n hx hb dX9_setSyllable_1 rfl (lv_at hl 1 rfl) ?_
  refine lv_ishl hx hb dX9_setSyllable_2 ?_
  refine r_val (v := 1) (by decide) ?_
  refine lv_istore (lv' := [(4, .int 1), (0, .ref (B + 44)), (1, .int 0), (2, .int 0), (3, .int 1)]) hx hb dX9_setSyllable_3 hl (by decide) rfl (fun ls hl => ?_)
  refine lv_aload_n hx hb dX9_setSyllable_5 rfl (lv_at hl 1 rfl) ?_
  refine lv_iload_n hx hb dX9_setSyllable_6 rfl (lv_at hl 3 rfl) ?_
  refine lv_if_eq (tgt := 20) hx hb dX9_setSyllable_7 (by decide) (fun _ => ?_) (fun c1 => absurd c1 (by decide))
  refine lv_aload_n hx hb dX9_setSyllable_20 rfl (lv_at hl 1 rfl) ?_
  refine f_9_2 F w (a := 44) rfl tb_65 dX9_setSyllable_21 ?_
  refine r_val (v := 0) (h0) ?_
  refine lv_iload hx hb dX9_setSyllable_24 (lv_at hl 0 rfl) ?_
  refine lv_iconst (v := (-1)) hx hb dX9_setSyllable_26 (by decide) ?_
  refine lv_ixor hx hb dX9_setSyllable_27 ?_
  refine r_val (v := (-2)) (by decide) ?_
  refine lv_iand hx hb dX9_setSyllable_28 ?_
  refine r_val (v := 0) (by decide) ?_
  refine u_9_2 F w (a := 44) rfl tb_65 dX9_setSyllable_29 (fun H locs w => ?_)
  rw [st_same (h0)] at w
  refine lv_aload_n hx hb dX9_setSyllable_32 rfl (lv_at hl 1 rfl) ?_
  refine lv_iload_n hx hb dX9_setSyllable_33 rfl (lv_at hl 4 rfl) ?_
  refine lv_if_eq (tgt := 47) hx hb dX9_setSyllable_34 (by decide) (fun c1 => absurd c1 (by decide)) (fun _ => ?_)
  refine lv_aload_n hx hb dX9_setSyllable_37 rfl (lv_at hl 1 rfl) ?_
  refine f_9_3 F w (a := 44) rfl tb_66 dX9_setSyllable_38 ?_
  refine r_val (v := 0) (h1) ?_
  refine lv_iload hx hb dX9_setSyllable_41 (lv_at hl 0 rfl) ?_
  refine lv_ior hx hb dX9_setSyllable_43 ?_
  refine r_val (v := 1) (by decide) ?_
  refine lv_goto (tgt := 56) hx hb dX9_setSyllable_44 (by decide) ?_
  refine u_9_3 F w (a := 44) rfl tb_66 dX9_setSyllable_56 (fun H locs w => ?_)
  exact e_v F w hr hlocks rfl dX9_setSyllable_59
set_option maxRecDepth 4000 in
theorem c_X9_addSyllable_159 {l : Launch} {D : va_G} {B : Nat} {cy : Nat → ClassId} {M : Mem} (h0 : M.1 44 1 = 0) (h1 : M.1 44 2 = 0) (h2 : M.1 44 3 = 0) : Cv l D B cy yX9_addSyllable cX9_addSyllable 3 1 24 [.ref (B + 44), .int 0, .int 1] M (fun M1 => M1 = (st (st M 44 1 1) 44 3 1)) := by
  refine s_any (by decide) (Nat.le_of_ble_eq_true rfl) ?_
  intro p e s m below meth c ls F hr hlocks w hl
  have F : CallFix p m c cX9_addSyllable 3 s _ TB RX9 := F
  have hx := F.1
  have hb := F.2.1
  have hl : lv_has ls 3 [(0, .ref (B + 44)), (1, .int 0), (2, .int 1)] := hl
  refine lv_aload_n hx hb dX9_addSyllable_0 rfl (lv_at hl 0 rfl) ?_
  refine f_9_1 F w (a := 44) rfl tb_64 dX9_addSyllable_1 ?_
  refine r_val (v := 0) (h0) ?_
  refine lv_bipush (v := 12) hx hb dX9_addSyllable_4 (by decide) ?_
  refine lv_icmp_ge (tgt := 31) hx hb dX9_addSyllable_6 (by decide) (fun c1 => absurd c1 (by decide)) (fun _ => ?_)
  refine lv_aload_n hx hb dX9_addSyllable_9 rfl (lv_at hl 0 rfl) ?_
  refine lv_dup hx hb dX9_addSyllable_10 rfl ?_
  refine f_9_1 F w (a := 44) rfl tb_64 dX9_addSyllable_11 ?_
  refine r_val (v := 0) (h0) ?_
  refine lv_iconst (v := 1) hx hb dX9_addSyllable_14 (by decide) ?_
  refine lv_iadd hx hb dX9_addSyllable_15 ?_
  refine r_val (v := 1) (by decide) ?_
  refine u_9_1 F w (a := 44) rfl tb_64 dX9_addSyllable_16 (fun H locs w => ?_)
  refine lv_aload_n hx hb dX9_addSyllable_19 rfl (lv_at hl 0 rfl) ?_
  refine lv_aload_n hx hb dX9_addSyllable_20 rfl (lv_at hl 0 rfl) ?_
  refine f_9_1 F w (a := 44) rfl tb_64 dX9_addSyllable_21 ?_
  refine r_val (v := 1) (st_at) ?_
  refine lv_iconst (v := 1) hx hb dX9_addSyllable_24 (by decide) ?_
  refine lv_isub hx hb dX9_addSyllable_25 ?_
  refine r_val (v := 0) (by decide) ?_
  refine lv_iload_n hx hb dX9_addSyllable_26 rfl (lv_at hl 1 rfl) ?_
  refine lv_iload_n hx hb dX9_addSyllable_27 rfl (lv_at hl 2 rfl) ?_
  refine x_Vv F w (As := [.int 0, .int 0, .int 1]) (rest := []) (a := 44) (by decide) (sh_9 rfl _ _) rfl (c_X9_setSyllable_158 ((st_ne (by decide)).trans h1) ((st_ne (by decide)).trans h2)) gv_X9_56 hv_X9_setSyllable ⟨Nat.le_of_ble_eq_true rfl, Nat.le_of_ble_eq_true rfl⟩ hl.1 rfl (Nat.le_of_ble_eq_true rfl) ⟨Nat.zero_le _, Nat.zero_le _⟩ dX9_addSyllable_28 (fun H locs w => ?_)
  exact e_v F w hr hlocks rfl dX9_addSyllable_31
set_option maxRecDepth 4000 in
theorem c_X11_grow_160 {l : Launch} {D : va_G} {B : Nat} {cy : Nat → ClassId} {M : Mem} (h0 : M.1 44 1 = 0) (h1 : M.1 71 1 = 0) (h2 : M.1 73 1 = 0) (h3 : M.1 44 2 = 0) (h4 : M.1 73 2 = 0) (h5 : M.1 44 3 = 0) (h6 : M.1 73 3 = 0) (h7 : M.1 44 0 = 0) (h8 : M.1 73 0 = 0) (h9 : ∀ k, k < 12 → M.1 45 k = 0) (h10 : ∀ k, k < 12 → M.1 74 k = 0) (h11 : ∀ k, k < 12 → M.1 46 k = 0) (h12 : ∀ k, k < 12 → M.1 75 k = 0) (h13 : M.1 71 2 = 0) (h14 : M.1 22 7 = 0) (h15 : M.1 109 0 = 0) (h16 : M.1 135 0 = 0) : Ci l D B cy yX11_grow cX11_grow 3 (some .boolean) 4 102 [.ref (B + 0), .int 0, .int 1] M (fun r M1 => r = 1 ∧ M1 = (st (st (st (st M 71 1 1) 71 2 1) 44 1 1) 44 3 1)) := by
  refine s_any (by decide) (Nat.le_of_ble_eq_true rfl) ?_
  intro p e s m below meth c ls F hr hlocks w hl
  have F : CallFix p m c cX11_grow 3 s _ TB RX11 := F
  have hx := F.1
  have hb := F.2.1
  have hl : lv_has ls 3 [(0, .ref (B + 0)), (1, .int 0), (2, .int 1)] := hl
  refine lv_aload_n hx hb dX11_grow_0 rfl (lv_at hl 0 rfl) ?_
  refine f_11_4 F w (a := 0) rfl tb_75 dX11_grow_1 ?_
  refine f_9_1 F w (a := 44) rfl tb_302 dX11_grow_4 ?_
  refine r_val (v := 0) (h0) ?_
  refine lv_bipush (v := 12) hx hb dX11_grow_7 (by decide) ?_
  refine lv_icmp_lt (tgt := 14) hx hb dX11_grow_9 (by decide) (fun _ => ?_) (fun c1 => absurd c1 (by decide))
  refine lv_aload_n hx hb dX11_grow_14 rfl (lv_at hl 0 rfl) ?_
  refine x_Vv F w (As := []) (rest := []) (a := 0) (by decide) (sh_11 rfl _ _) rfl (c_X11_beginAct_120 (h1) (h0) (h2) (h3) (h4) (h5) (h6) (h7) (h8) (fun k hk => (h9 k hk)) (fun k hk => (h10 k hk)) (fun k hk => (h11 k hk)) (fun k hk => (h12 k hk)) (h13) (h14) (h15) (h16)) gv_X11_123 hv_X11_beginAct ⟨Nat.le_of_ble_eq_true rfl, Nat.le_of_ble_eq_true rfl⟩ hl.1 rfl (Nat.le_of_ble_eq_true rfl) ⟨Nat.zero_le _, Nat.zero_le _⟩ dX11_grow_15 (fun H locs w => ?_)
  refine lv_aload_n hx hb dX11_grow_18 rfl (lv_at hl 0 rfl) ?_
  refine f_11_4 F w (a := 0) rfl tb_75 dX11_grow_19 ?_
  refine lv_iload_n hx hb dX11_grow_22 rfl (lv_at hl 1 rfl) ?_
  refine lv_iload_n hx hb dX11_grow_23 rfl (lv_at hl 2 rfl) ?_
  refine x_Vv F w (As := [.int 0, .int 1]) (rest := []) (a := 44) (by decide) (sh_9 rfl _ _) rfl (c_X9_addSyllable_159 ((st_ne (by decide)).trans ((st_ne (by decide)).trans h0)) ((st_ne (by decide)).trans ((st_ne (by decide)).trans h3)) ((st_ne (by decide)).trans ((st_ne (by decide)).trans h5))) gv_X11_153 hv_X9_addSyllable ⟨Nat.le_of_ble_eq_true rfl, Nat.le_of_ble_eq_true rfl⟩ hl.1 rfl (Nat.le_of_ble_eq_true rfl) ⟨Nat.zero_le _, Nat.zero_le _⟩ dX11_grow_24 (fun H locs w => ?_)
  refine lv_iconst (v := 1) hx hb dX11_grow_27 (by decide) ?_
  exact e_z F w hr hlocks (by decide) ⟨rfl, rfl⟩ dX11_grow_28
theorem dL_law_483 : decode cL_law 483 = .ok (.iconst 1, 1) := by decide +kernel
theorem dL_law_484 : decode cL_law 484 = .ok (.goto 4, 3) := by decide +kernel
theorem dX12_marks_51 : decode cX12_marks 51 = .ok (.aload_n 0, 1) := by decide +kernel
theorem dX12_marks_52 : decode cX12_marks 52 = .ok (.getfield 13, 3) := by decide +kernel
theorem dX12_marks_55 : decode cX12_marks 55 = .ok (.bipush 27, 2) := by decide +kernel
theorem dX12_marks_57 : decode cX12_marks 57 = .ok (.iaload, 1) := by decide +kernel
theorem dX12_marks_58 : decode cX12_marks 58 = .ok (.iload 4, 2) := by decide +kernel
theorem dX12_marks_60 : decode cX12_marks 60 = .ok (.ior, 1) := by decide +kernel
theorem dX12_marks_61 : decode cX12_marks 61 = .ok (.goto 15, 3) := by decide +kernel
set_option maxRecDepth 4000 in
theorem c_X12_marks_161 {l : Launch} {D : va_G} {B : Nat} {cy : Nat → ClassId} {M : Mem} (h0 : M.1 147 26 = 0) (h1 : M.1 147 27 = 0) : Cv l D B cy yX12_marks cX12_marks 5 0 0 [.ref (B + 146), .int 0, .int 0, .int 1] M (fun M1 => M1 = (st M 147 27 1)) := by
  refine s_any (by decide) (Nat.le_of_ble_eq_true rfl) ?_
  intro p e s m below meth c ls F hr hlocks w hl
  have F : CallFix p m c cX12_marks 5 s _ TB RX12 := F
  have hx := F.1
  have hb := F.2.1
  have hl : lv_has ls 5 [(0, .ref (B + 146)), (1, .int 0), (2, .int 0), (3, .int 1)] := hl
  refine lv_iconst (v := 1) hx hb dX12_marks_0 (by decide) ?_
  refine lv_iload_n hx hb dX12_marks_1 rfl (lv_at hl 1 rfl) ?_
  refine lv_ishl hx hb dX12_marks_2 ?_
  refine r_val (v := 1) (by decide) ?_
  refine lv_istore (lv' := [(4, .int 1), (0, .ref (B + 146)), (1, .int 0), (2, .int 0), (3, .int 1)]) hx hb dX12_marks_3 hl (by decide) rfl (fun ls hl => ?_)
  refine lv_aload_n hx hb dX12_marks_5 rfl (lv_at hl 1 rfl) ?_
  refine f_12_1 F w (a := 146) rfl tb_126 dX12_marks_6 ?_
  refine lv_bipush (v := 26) hx hb dX12_marks_9 (by decide) ?_
  refine lv_iload_n hx hb dX12_marks_11 rfl (lv_at hl 3 rfl) ?_
  refine lv_if_eq (tgt := 28) hx hb dX12_marks_12 (by decide) (fun _ => ?_) (fun c1 => absurd c1 (by decide))
  refine lv_aload_n hx hb dX12_marks_28 rfl (lv_at hl 1 rfl) ?_
  refine f_12_1 F w (a := 146) rfl tb_126 dX12_marks_29 ?_
  refine lv_bipush (v := 26) hx hb dX12_marks_32 (by decide) ?_
  refine g_iald F w (a := 147) rfl (j := 26) ⟨by decide, by decide⟩ (by decide) dX12_marks_34 ?_
  refine r_val (v := 0) (h0) ?_
  refine lv_iload hx hb dX12_marks_35 (lv_at hl 0 rfl) ?_
  refine lv_iconst (v := (-1)) hx hb dX12_marks_37 (by decide) ?_
  refine lv_ixor hx hb dX12_marks_38 ?_
  refine r_val (v := (-2)) (by decide) ?_
  refine lv_iand hx hb dX12_marks_39 ?_
  refine r_val (v := 0) (by decide) ?_
  refine g_iast F w (a := 147) rfl (j := 26) ⟨by decide, by decide⟩ (by decide) dX12_marks_40 (fun H locs w => ?_)
  rw [st_same (h0)] at w
  refine lv_aload_n hx hb dX12_marks_41 rfl (lv_at hl 1 rfl) ?_
  refine f_12_1 F w (a := 146) rfl tb_126 dX12_marks_42 ?_
  refine lv_bipush (v := 27) hx hb dX12_marks_45 (by decide) ?_
  refine lv_iload_n hx hb dX12_marks_47 rfl (lv_at hl 4 rfl) ?_
  refine lv_if_eq (tgt := 64) hx hb dX12_marks_48 (by decide) (fun c1 => absurd c1 (by decide)) (fun _ => ?_)
  refine lv_aload_n hx hb dX12_marks_51 rfl (lv_at hl 1 rfl) ?_
  refine f_12_1 F w (a := 146) rfl tb_126 dX12_marks_52 ?_
  refine lv_bipush (v := 27) hx hb dX12_marks_55 (by decide) ?_
  refine g_iald F w (a := 147) rfl (j := 27) ⟨by decide, by decide⟩ (by decide) dX12_marks_57 ?_
  refine r_val (v := 0) (h1) ?_
  refine lv_iload hx hb dX12_marks_58 (lv_at hl 0 rfl) ?_
  refine lv_ior hx hb dX12_marks_60 ?_
  refine r_val (v := 1) (by decide) ?_
  refine lv_goto (tgt := 76) hx hb dX12_marks_61 (by decide) ?_
  refine g_iast F w (a := 147) rfl (j := 27) ⟨by decide, by decide⟩ (by decide) dX12_marks_76 (fun H locs w => ?_)
  exact e_v F w hr hlocks rfl dX12_marks_77
set_option maxRecDepth 4000 in
theorem c_X12_grow_162 {l : Launch} {D : va_G} {B : Nat} {cy : Nat → ClassId} {M : Mem} (h0 : M.1 147 25 = 0) (h1 : M.1 146 20 = 0) (h2 : M.1 147 0 = 0) (h3 : M.1 155 0 = 0) (h4 : M.1 147 1 = 0) (h5 : M.1 155 1 = 0) (h6 : M.1 147 2 = 0) (h7 : M.1 155 2 = 0) (h8 : M.1 147 3 = 0) (h9 : M.1 155 3 = 0) (h10 : M.1 147 4 = 0) (h11 : M.1 155 4 = 0) (h12 : M.1 147 5 = 0) (h13 : M.1 155 5 = 0) (h14 : M.1 147 6 = 0) (h15 : M.1 155 6 = 0) (h16 : M.1 147 7 = 0) (h17 : M.1 155 7 = 0) (h18 : M.1 147 8 = 0) (h19 : M.1 155 8 = 0) (h20 : M.1 147 9 = 0) (h21 : M.1 155 9 = 0) (h22 : M.1 147 10 = 0) (h23 : M.1 155 10 = 0) (h24 : M.1 147 11 = 0) (h25 : M.1 155 11 = 0) (h26 : M.1 147 12 = 0) (h27 : M.1 155 12 = 0) (h28 : M.1 147 13 = 0) (h29 : M.1 155 13 = 0) (h30 : M.1 147 14 = 0) (h31 : M.1 155 14 = 0) (h32 : M.1 147 15 = 0) (h33 : M.1 155 15 = 0) (h34 : M.1 147 16 = 0) (h35 : M.1 155 16 = 0) (h36 : M.1 147 17 = 0) (h37 : M.1 155 17 = 0) (h38 : M.1 147 18 = 0) (h39 : M.1 155 18 = 0) (h40 : M.1 147 19 = 0) (h41 : M.1 155 19 = 0) (h42 : M.1 147 20 = 0) (h43 : M.1 155 20 = 0) (h44 : M.1 147 21 = 0) (h45 : M.1 155 21 = 0) (h46 : M.1 147 22 = 0) (h47 : M.1 155 22 = 0) (h48 : M.1 147 23 = 0) (h49 : M.1 155 23 = 0) (h50 : M.1 147 24 = 0) (h51 : M.1 155 24 = 0) (h52 : M.1 155 25 = 0) (h53 : M.1 147 26 = 0) (h54 : M.1 155 26 = 0) (h55 : M.1 147 27 = 0) (h56 : M.1 155 27 = 0) : Ci l D B cy yX12_grow cX12_grow 4 (some .boolean) 1 24 [.ref (B + 146), .int 0, .int 1] M (fun r M1 => r = 1 ∧ M1 = (st (st (st M 146 20 1) 147 25 1) 147 27 1)) := by
  refine s_any (by decide) (Nat.le_of_ble_eq_true rfl) ?_
  intro p e s m below meth c ls F hr hlocks w hl
  have F : CallFix p m c cX12_grow 4 s _ TB RX12 := F
  have hx := F.1
  have hb := F.2.1
  have hl : lv_has ls 4 [(0, .ref (B + 146)), (1, .int 0), (2, .int 1)] := hl
  refine lv_aload_n hx hb dX12_grow_0 rfl (lv_at hl 0 rfl) ?_
  refine f_12_1 F w (a := 146) rfl tb_126 dX12_grow_1 ?_
  refine lv_bipush (v := 25) hx hb dX12_grow_4 (by decide) ?_
  refine g_iald F w (a := 147) rfl (j := 25) ⟨by decide, by decide⟩ (by decide) dX12_grow_6 ?_
  refine r_val (v := 0) (h0) ?_
  refine lv_istore_n (lv' := [(3, .int 0), (0, .ref (B + 146)), (1, .int 0), (2, .int 1)]) hx hb dX12_grow_7 rfl hl (by decide) rfl (fun ls hl => ?_)
  refine lv_iload_n hx hb dX12_grow_8 rfl (lv_at hl 0 rfl) ?_
  refine lv_bipush (v := 12) hx hb dX12_grow_9 (by decide) ?_
  refine lv_icmp_ne (tgt := 16) hx hb dX12_grow_11 (by decide) (fun _ => ?_) (fun c1 => absurd c1 (by decide))
  refine lv_aload_n hx hb dX12_grow_16 rfl (lv_at hl 1 rfl) ?_
  refine x_Vv F w (As := []) (rest := []) (a := 146) (by decide) (sh_12 rfl _ _) rfl (c_X12_keeps_124 (h1) (h2) (h3) (h4) (h5) (h6) (h7) (h8) (h9) (h10) (h11) (h12) (h13) (h14) (h15) (h16) (h17) (h18) (h19) (h20) (h21) (h22) (h23) (h24) (h25) (h26) (h27) (h28) (h29) (h30) (h31) (h32) (h33) (h34) (h35) (h36) (h37) (h38) (h39) (h40) (h41) (h42) (h43) (h44) (h45) (h46) (h47) (h48) (h49) (h50) (h51) (h0) (h52) (h53) (h54) (h55) (h56)) gv_X12_242 hv_X12_keeps ⟨Nat.le_of_ble_eq_true rfl, Nat.le_of_ble_eq_true rfl⟩ hl.1 rfl (Nat.le_of_ble_eq_true rfl) ⟨Nat.zero_le _, Nat.zero_le _⟩ dX12_grow_17 (fun H locs w => ?_)
  refine lv_aload_n hx hb dX12_grow_20 rfl (lv_at hl 1 rfl) ?_
  refine f_12_1 F w (a := 146) rfl tb_126 dX12_grow_21 ?_
  refine lv_bipush (v := 25) hx hb dX12_grow_24 (by decide) ?_
  refine lv_dup2_11 hx hb dX12_grow_26 rfl rfl ?_
  refine g_iald F w (a := 147) rfl (j := 25) ⟨by decide, by decide⟩ (by decide) dX12_grow_27 ?_
  refine r_val (v := 0) ((st_ne (by decide)).trans h0) ?_
  refine lv_iconst (v := 1) hx hb dX12_grow_28 (by decide) ?_
  refine lv_iadd hx hb dX12_grow_29 ?_
  refine r_val (v := 1) (by decide) ?_
  refine g_iast F w (a := 147) rfl (j := 25) ⟨by decide, by decide⟩ (by decide) dX12_grow_30 (fun H locs w => ?_)
  refine lv_aload_n hx hb dX12_grow_31 rfl (lv_at hl 1 rfl) ?_
  refine lv_iload_n hx hb dX12_grow_32 rfl (lv_at hl 0 rfl) ?_
  refine lv_iload_n hx hb dX12_grow_33 rfl (lv_at hl 2 rfl) ?_
  refine lv_iload_n hx hb dX12_grow_34 rfl (lv_at hl 3 rfl) ?_
  refine x_Vv F w (As := [.int 0, .int 0, .int 1]) (rest := []) (a := 146) (by decide) (sh_12 rfl _ _) rfl (c_X12_marks_161 ((st_ne (by decide)).trans ((st_ne (by decide)).trans h53)) ((st_ne (by decide)).trans ((st_ne (by decide)).trans h55))) gv_X12_245 hv_X12_marks ⟨Nat.le_of_ble_eq_true rfl, Nat.le_of_ble_eq_true rfl⟩ hl.1 rfl (Nat.le_of_ble_eq_true rfl) ⟨Nat.zero_le _, Nat.zero_le _⟩ dX12_grow_35 (fun H locs w => ?_)
  refine lv_iconst (v := 1) hx hb dX12_grow_38 (by decide) ?_
  exact e_z F w hr hlocks (by decide) ⟨rfl, rfl⟩ dX12_grow_39
set_option maxRecDepth 8000 in
theorem la_9_23 {p : Program} {l : Launch} {e : Env} {s : State} {m : MethodId} {below : List Frame} {meth : Method} {c : Code} {D : va_G} {B b : Nat} {cy : Nat → ClassId} {H : Heap} {locs : List Loc} {ls : Array Slot} {xs : Nat → Int32} {Q : State → Prop} (F : CallFix p m c code 4 s #[Value.ref b] TB RL) (hX : va_X b 6 xs s s.heap) (hbl : b < s.heap.size) (hbA : ¬ B ≤ b) (w : Wd D B cy s s.heap M0 H locs) (hl : lv_has ls 4 [(3, .int 0), (2, .ref (B + 146)), (1, .ref (B + 0)), (0, .ref b)]) (x1 : xs 1 = 0) (h0 : ¬ (xs 2) = 0) (kk : ∀ (M1 : Mem) (H1 : Heap) (locs1 : List Loc), Wd D B cy s s.heap M1 H1 locs1 → W p l e room_1 s m #[Value.ref b] below meth c H1 locs1 159 13107 Q (F0 m 1065 ls [])) : W p l e room_1 s m #[Value.ref b] below meth c H locs 159 13107 Q (F0 m 431 ls []) := by
  have hx := F.1
  have hb := F.2.1
  refine lv_aload_n hx hb dL_law_431 rfl (lv_at hl 2 rfl) ?_
  refine lv_aload_n hx hb dL_law_432 rfl (lv_at hl 3 rfl) ?_
  refine lv_iload_n hx hb dL_law_433 rfl (lv_at hl 0 rfl) ?_
  refine lv_iconst (v := 1) hx hb dL_law_434 (by decide) ?_
  refine lv_iadd hx hb dL_law_435 ?_
  refine r_val (v := 1) (by decide) ?_
  refine va_sld hx hb hX hbl hbA w.2.2.1 (vpi (by decide) (by decide)) dL_law_436 ?_
  refine r_val (v := 0) ((congrArg xs (show (1 : Int32).toNatClampNeg = 1 by decide)).trans x1) ?_
  refine lv_if_eq (tgt := 444) hx hb dL_law_437 (by decide) (fun _ => ?_) (fun c1 => absurd c1 (by decide))
  refine lv_iconst (v := 0) hx hb dL_law_444 (by decide) ?_
  refine lv_aload_n hx hb dL_law_445 rfl (lv_at hl 3 rfl) ?_
  refine lv_iload_n hx hb dL_law_446 rfl (lv_at hl 0 rfl) ?_
  refine lv_iconst (v := 2) hx hb dL_law_447 (by decide) ?_
  refine lv_iadd hx hb dL_law_448 ?_
  refine r_val (v := 2) (by decide) ?_
  refine va_sld hx hb hX hbl hbA w.2.2.1 (vpi (by decide) (by decide)) dL_law_449 ?_
  refine r_val (v := xs 2) (congrArg xs (show (2 : Int32).toNatClampNeg = 2 by decide)) ?_
  refine lv_if_eq (tgt := 457) hx hb dL_law_450 (by decide) (fun c1 => absurd c1 h0) (fun _ => ?_)
  refine lv_iconst (v := 1) hx hb dL_law_453 (by decide) ?_
  refine lv_goto (tgt := 458) hx hb dL_law_454 (by decide) ?_
  refine x_Vi F w (As := [.int 0, .int 1]) (rest := []) (a := 0) (by decide) (sh_11 rfl _ _) rfl (c_X11_grow_160 (rfl) (rfl) (rfl) (rfl) (rfl) (rfl) (rfl) (rfl) (rfl) (fun k hk => ((fun k hk => rfl) k hk)) (fun k hk => ((fun k hk => rfl) k hk)) (fun k hk => ((fun k hk => rfl) k hk)) (fun k hk => ((fun k hk => rfl) k hk)) (rfl) (rfl) (rfl) (rfl)) gv_L_55 hv_X11_grow ⟨Nat.le_of_ble_eq_true rfl, Nat.le_of_ble_eq_true rfl⟩ hl.1 rfl (Nat.le_of_ble_eq_true rfl) ⟨Nat.le_of_ble_eq_true rfl, Nat.le_of_ble_eq_true rfl⟩ dL_law_458 (fun H locs w => ?_)
  refine lv_aload_n hx hb dL_law_461 rfl (lv_at hl 1 rfl) ?_
  refine lv_aload_n hx hb dL_law_462 rfl (lv_at hl 3 rfl) ?_
  refine lv_iload_n hx hb dL_law_463 rfl (lv_at hl 0 rfl) ?_
  refine lv_iconst (v := 1) hx hb dL_law_464 (by decide) ?_
  refine lv_iadd hx hb dL_law_465 ?_
  refine r_val (v := 1) (by decide) ?_
  refine va_sld hx hb hX hbl hbA w.2.2.1 (vpi (by decide) (by decide)) dL_law_466 ?_
  refine r_val (v := 0) ((congrArg xs (show (1 : Int32).toNatClampNeg = 1 by decide)).trans x1) ?_
  refine lv_if_eq (tgt := 474) hx hb dL_law_467 (by decide) (fun _ => ?_) (fun c1 => absurd c1 (by decide))
  refine lv_iconst (v := 0) hx hb dL_law_474 (by decide) ?_
  refine lv_aload_n hx hb dL_law_475 rfl (lv_at hl 3 rfl) ?_
  refine lv_iload_n hx hb dL_law_476 rfl (lv_at hl 0 rfl) ?_
  refine lv_iconst (v := 2) hx hb dL_law_477 (by decide) ?_
  refine lv_iadd hx hb dL_law_478 ?_
  refine r_val (v := 2) (by decide) ?_
  refine va_sld hx hb hX hbl hbA w.2.2.1 (vpi (by decide) (by decide)) dL_law_479 ?_
  refine r_val (v := xs 2) (congrArg xs (show (2 : Int32).toNatClampNeg = 2 by decide)) ?_
  refine lv_if_eq (tgt := 487) hx hb dL_law_480 (by decide) (fun c1 => absurd c1 h0) (fun _ => ?_)
  refine lv_iconst (v := 1) hx hb dL_law_483 (by decide) ?_
  refine lv_goto (tgt := 488) hx hb dL_law_484 (by decide) ?_
  refine x_Vi F w (As := [.int 0, .int 1]) (rest := [.int 1]) (a := 146) (by decide) (sh_12 rfl _ _) rfl (c_X12_grow_162 ((st_ne (by decide)).trans ((st_ne (by decide)).trans ((st_ne (by decide)).trans ((st_ne (by decide)).trans rfl)))) ((st_ne (by decide)).trans ((st_ne (by decide)).trans ((st_ne (by decide)).trans ((st_ne (by decide)).trans rfl)))) ((st_ne (by decide)).trans ((st_ne (by decide)).trans ((st_ne (by decide)).trans ((st_ne (by decide)).trans rfl)))) ((st_ne (by decide)).trans ((st_ne (by decide)).trans ((st_ne (by decide)).trans ((st_ne (by decide)).trans rfl)))) ((st_ne (by decide)).trans ((st_ne (by decide)).trans ((st_ne (by decide)).trans ((st_ne (by decide)).trans rfl)))) ((st_ne (by decide)).trans ((st_ne (by decide)).trans ((st_ne (by decide)).trans ((st_ne (by decide)).trans rfl)))) ((st_ne (by decide)).trans ((st_ne (by decide)).trans ((st_ne (by decide)).trans ((st_ne (by decide)).trans rfl)))) ((st_ne (by decide)).trans ((st_ne (by decide)).trans ((st_ne (by decide)).trans ((st_ne (by decide)).trans rfl)))) ((st_ne (by decide)).trans ((st_ne (by decide)).trans ((st_ne (by decide)).trans ((st_ne (by decide)).trans rfl)))) ((st_ne (by decide)).trans ((st_ne (by decide)).trans ((st_ne (by decide)).trans ((st_ne (by decide)).trans rfl)))) ((st_ne (by decide)).trans ((st_ne (by decide)).trans ((st_ne (by decide)).trans ((st_ne (by decide)).trans rfl)))) ((st_ne (by decide)).trans ((st_ne (by decide)).trans ((st_ne (by decide)).trans ((st_ne (by decide)).trans rfl)))) ((st_ne (by decide)).trans ((st_ne (by decide)).trans ((st_ne (by decide)).trans ((st_ne (by decide)).trans rfl)))) ((st_ne (by decide)).trans ((st_ne (by decide)).trans ((st_ne (by decide)).trans ((st_ne (by decide)).trans rfl)))) ((st_ne (by decide)).trans ((st_ne (by decide)).trans ((st_ne (by decide)).trans ((st_ne (by decide)).trans rfl)))) ((st_ne (by decide)).trans ((st_ne (by decide)).trans ((st_ne (by decide)).trans ((st_ne (by decide)).trans rfl)))) ((st_ne (by decide)).trans ((st_ne (by decide)).trans ((st_ne (by decide)).trans ((st_ne (by decide)).trans rfl)))) ((st_ne (by decide)).trans ((st_ne (by decide)).trans ((st_ne (by decide)).trans ((st_ne (by decide)).trans rfl)))) ((st_ne (by decide)).trans ((st_ne (by decide)).trans ((st_ne (by decide)).trans ((st_ne (by decide)).trans rfl)))) ((st_ne (by decide)).trans ((st_ne (by decide)).trans ((st_ne (by decide)).trans ((st_ne (by decide)).trans rfl)))) ((st_ne (by decide)).trans ((st_ne (by decide)).trans ((st_ne (by decide)).trans ((st_ne (by decide)).trans rfl)))) ((st_ne (by decide)).trans ((st_ne (by decide)).trans ((st_ne (by decide)).trans ((st_ne (by decide)).trans rfl)))) ((st_ne (by decide)).trans ((st_ne (by decide)).trans ((st_ne (by decide)).trans ((st_ne (by decide)).trans rfl)))) ((st_ne (by decide)).trans ((st_ne (by decide)).trans ((st_ne (by decide)).trans ((st_ne (by decide)).trans rfl)))) ((st_ne (by decide)).trans ((st_ne (by decide)).trans ((st_ne (by decide)).trans ((st_ne (by decide)).trans rfl)))) ((st_ne (by decide)).trans ((st_ne (by decide)).trans ((st_ne (by decide)).trans ((st_ne (by decide)).trans rfl)))) ((st_ne (by decide)).trans ((st_ne (by decide)).trans ((st_ne (by decide)).trans ((st_ne (by decide)).trans rfl)))) ((st_ne (by decide)).trans ((st_ne (by decide)).trans ((st_ne (by decide)).trans ((st_ne (by decide)).trans rfl)))) ((st_ne (by decide)).trans ((st_ne (by decide)).trans ((st_ne (by decide)).trans ((st_ne (by decide)).trans rfl)))) ((st_ne (by decide)).trans ((st_ne (by decide)).trans ((st_ne (by decide)).trans ((st_ne (by decide)).trans rfl)))) ((st_ne (by decide)).trans ((st_ne (by decide)).trans ((st_ne (by decide)).trans ((st_ne (by decide)).trans rfl)))) ((st_ne (by decide)).trans ((st_ne (by decide)).trans ((st_ne (by decide)).trans ((st_ne (by decide)).trans rfl)))) ((st_ne (by decide)).trans ((st_ne (by decide)).trans ((st_ne (by decide)).trans ((st_ne (by decide)).trans rfl)))) ((st_ne (by decide)).trans ((st_ne (by decide)).trans ((st_ne (by decide)).trans ((st_ne (by decide)).trans rfl)))) ((st_ne (by decide)).trans ((st_ne (by decide)).trans ((st_ne (by decide)).trans ((st_ne (by decide)).trans rfl)))) ((st_ne (by decide)).trans ((st_ne (by decide)).trans ((st_ne (by decide)).trans ((st_ne (by decide)).trans rfl)))) ((st_ne (by decide)).trans ((st_ne (by decide)).trans ((st_ne (by decide)).trans ((st_ne (by decide)).trans rfl)))) ((st_ne (by decide)).trans ((st_ne (by decide)).trans ((st_ne (by decide)).trans ((st_ne (by decide)).trans rfl)))) ((st_ne (by decide)).trans ((st_ne (by decide)).trans ((st_ne (by decide)).trans ((st_ne (by decide)).trans rfl)))) ((st_ne (by decide)).trans ((st_ne (by decide)).trans ((st_ne (by decide)).trans ((st_ne (by decide)).trans rfl)))) ((st_ne (by decide)).trans ((st_ne (by decide)).trans ((st_ne (by decide)).trans ((st_ne (by decide)).trans rfl)))) ((st_ne (by decide)).trans ((st_ne (by decide)).trans ((st_ne (by decide)).trans ((st_ne (by decide)).trans rfl)))) ((st_ne (by decide)).trans ((st_ne (by decide)).trans ((st_ne (by decide)).trans ((st_ne (by decide)).trans rfl)))) ((st_ne (by decide)).trans ((st_ne (by decide)).trans ((st_ne (by decide)).trans ((st_ne (by decide)).trans rfl)))) ((st_ne (by decide)).trans ((st_ne (by decide)).trans ((st_ne (by decide)).trans ((st_ne (by decide)).trans rfl)))) ((st_ne (by decide)).trans ((st_ne (by decide)).trans ((st_ne (by decide)).trans ((st_ne (by decide)).trans rfl)))) ((st_ne (by decide)).trans ((st_ne (by decide)).trans ((st_ne (by decide)).trans ((st_ne (by decide)).trans rfl)))) ((st_ne (by decide)).trans ((st_ne (by decide)).trans ((st_ne (by decide)).trans ((st_ne (by decide)).trans rfl)))) ((st_ne (by decide)).trans ((st_ne (by decide)).trans ((st_ne (by decide)).trans ((st_ne (by decide)).trans rfl)))) ((st_ne (by decide)).trans ((st_ne (by decide)).trans ((st_ne (by decide)).trans ((st_ne (by decide)).trans rfl)))) ((st_ne (by decide)).trans ((st_ne (by decide)).trans ((st_ne (by decide)).trans ((st_ne (by decide)).trans rfl)))) ((st_ne (by decide)).trans ((st_ne (by decide)).trans ((st_ne (by decide)).trans ((st_ne (by decide)).trans rfl)))) ((st_ne (by decide)).trans ((st_ne (by decide)).trans ((st_ne (by decide)).trans ((st_ne (by decide)).trans rfl)))) ((st_ne (by decide)).trans ((st_ne (by decide)).trans ((st_ne (by decide)).trans ((st_ne (by decide)).trans rfl)))) ((st_ne (by decide)).trans ((st_ne (by decide)).trans ((st_ne (by decide)).trans ((st_ne (by decide)).trans rfl)))) ((st_ne (by decide)).trans ((st_ne (by decide)).trans ((st_ne (by decide)).trans ((st_ne (by decide)).trans rfl)))) ((st_ne (by decide)).trans ((st_ne (by decide)).trans ((st_ne (by decide)).trans ((st_ne (by decide)).trans rfl))))) gv_L_59 hv_X12_grow ⟨Nat.le_of_ble_eq_true rfl, Nat.le_of_ble_eq_true rfl⟩ hl.1 rfl (Nat.le_of_ble_eq_true rfl) ⟨Nat.le_of_ble_eq_true rfl, Nat.le_of_ble_eq_true rfl⟩ dL_law_488 (fun H locs w => ?_)
  refine lv_icmp_eq (tgt := 1065) hx hb dL_law_491 (by decide) (fun _ => ?_) (fun c1 => absurd c1 (by decide))
  exact kk _ _ _ w
theorem dL_law_440 : decode cL_law 440 = .ok (.iconst 1, 1) := by decide +kernel
theorem dL_law_441 : decode cL_law 441 = .ok (.goto 4, 3) := by decide +kernel
theorem dX9_setSyllable_10 : decode cX9_setSyllable 10 = .ok (.aload_n 0, 1) := by decide +kernel
theorem dX9_setSyllable_11 : decode cX9_setSyllable 11 = .ok (.getfield 18, 3) := by decide +kernel
theorem dX9_setSyllable_14 : decode cX9_setSyllable 14 = .ok (.iload 4, 2) := by decide +kernel
theorem dX9_setSyllable_16 : decode cX9_setSyllable 16 = .ok (.ior, 1) := by decide +kernel
theorem dX9_setSyllable_17 : decode cX9_setSyllable 17 = .ok (.goto 12, 3) := by decide +kernel
set_option maxRecDepth 4000 in
theorem c_X9_setSyllable_163 {l : Launch} {D : va_G} {B : Nat} {cy : Nat → ClassId} {M : Mem} (h0 : M.1 44 2 = 0) (h1 : M.1 44 3 = 0) : Cv l D B cy yX9_setSyllable cX9_setSyllable 5 0 0 [.ref (B + 44), .int 0, .int 1, .int 0] M (fun M1 => M1 = (st M 44 2 1)) := by
  refine s_any (by decide) (Nat.le_of_ble_eq_true rfl) ?_
  intro p e s m below meth c ls F hr hlocks w hl
  have F : CallFix p m c cX9_setSyllable 5 s _ TB RX9 := F
  have hx := F.1
  have hb := F.2.1
  have hl : lv_has ls 5 [(0, .ref (B + 44)), (1, .int 0), (2, .int 1), (3, .int 0)] := hl
  refine lv_iconst (v := 1) hx hb dX9_setSyllable_0 (by decide) ?_
  refine lv_iload_n hx hb dX9_setSyllable_1 rfl (lv_at hl 1 rfl) ?_
  refine lv_ishl hx hb dX9_setSyllable_2 ?_
  refine r_val (v := 1) (by decide) ?_
  refine lv_istore (lv' := [(4, .int 1), (0, .ref (B + 44)), (1, .int 0), (2, .int 1), (3, .int 0)]) hx hb dX9_setSyllable_3 hl (by decide) rfl (fun ls hl => ?_)
  refine lv_aload_n hx hb dX9_setSyllable_5 rfl (lv_at hl 1 rfl) ?_
  refine lv_iload_n hx hb dX9_setSyllable_6 rfl (lv_at hl 3 rfl) ?_
  refine lv_if_eq (tgt := 20) hx hb dX9_setSyllable_7 (by decide) (fun c1 => absurd c1 (by decide)) (fun _ => ?_)
  refine lv_aload_n hx hb dX9_setSyllable_10 rfl (lv_at hl 1 rfl) ?_
  refine f_9_2 F w (a := 44) rfl tb_65 dX9_setSyllable_11 ?_
  refine r_val (v := 0) (h0) ?_
  refine lv_iload hx hb dX9_setSyllable_14 (lv_at hl 0 rfl) ?_
  refine lv_ior hx hb dX9_setSyllable_16 ?_
  refine r_val (v := 1) (by decide) ?_
  refine lv_goto (tgt := 29) hx hb dX9_setSyllable_17 (by decide) ?_
  refine u_9_2 F w (a := 44) rfl tb_65 dX9_setSyllable_29 (fun H locs w => ?_)
  refine lv_aload_n hx hb dX9_setSyllable_32 rfl (lv_at hl 1 rfl) ?_
  refine lv_iload_n hx hb dX9_setSyllable_33 rfl (lv_at hl 4 rfl) ?_
  refine lv_if_eq (tgt := 47) hx hb dX9_setSyllable_34 (by decide) (fun _ => ?_) (fun c1 => absurd c1 (by decide))
  refine lv_aload_n hx hb dX9_setSyllable_47 rfl (lv_at hl 1 rfl) ?_
  refine f_9_3 F w (a := 44) rfl tb_66 dX9_setSyllable_48 ?_
  refine r_val (v := 0) ((st_ne (by decide)).trans h1) ?_
  refine lv_iload hx hb dX9_setSyllable_51 (lv_at hl 0 rfl) ?_
  refine lv_iconst (v := (-1)) hx hb dX9_setSyllable_53 (by decide) ?_
  refine lv_ixor hx hb dX9_setSyllable_54 ?_
  refine r_val (v := (-2)) (by decide) ?_
  refine lv_iand hx hb dX9_setSyllable_55 ?_
  refine r_val (v := 0) (by decide) ?_
  refine u_9_3 F w (a := 44) rfl tb_66 dX9_setSyllable_56 (fun H locs w => ?_)
  rw [st_same ((st_ne (by decide)).trans h1)] at w
  exact e_v F w hr hlocks rfl dX9_setSyllable_59
set_option maxRecDepth 4000 in
theorem c_X9_addSyllable_164 {l : Launch} {D : va_G} {B : Nat} {cy : Nat → ClassId} {M : Mem} (h0 : M.1 44 1 = 0) (h1 : M.1 44 2 = 0) (h2 : M.1 44 3 = 0) : Cv l D B cy yX9_addSyllable cX9_addSyllable 3 1 24 [.ref (B + 44), .int 1, .int 0] M (fun M1 => M1 = (st (st M 44 1 1) 44 2 1)) := by
  refine s_any (by decide) (Nat.le_of_ble_eq_true rfl) ?_
  intro p e s m below meth c ls F hr hlocks w hl
  have F : CallFix p m c cX9_addSyllable 3 s _ TB RX9 := F
  have hx := F.1
  have hb := F.2.1
  have hl : lv_has ls 3 [(0, .ref (B + 44)), (1, .int 1), (2, .int 0)] := hl
  refine lv_aload_n hx hb dX9_addSyllable_0 rfl (lv_at hl 0 rfl) ?_
  refine f_9_1 F w (a := 44) rfl tb_64 dX9_addSyllable_1 ?_
  refine r_val (v := 0) (h0) ?_
  refine lv_bipush (v := 12) hx hb dX9_addSyllable_4 (by decide) ?_
  refine lv_icmp_ge (tgt := 31) hx hb dX9_addSyllable_6 (by decide) (fun c1 => absurd c1 (by decide)) (fun _ => ?_)
  refine lv_aload_n hx hb dX9_addSyllable_9 rfl (lv_at hl 0 rfl) ?_
  refine lv_dup hx hb dX9_addSyllable_10 rfl ?_
  refine f_9_1 F w (a := 44) rfl tb_64 dX9_addSyllable_11 ?_
  refine r_val (v := 0) (h0) ?_
  refine lv_iconst (v := 1) hx hb dX9_addSyllable_14 (by decide) ?_
  refine lv_iadd hx hb dX9_addSyllable_15 ?_
  refine r_val (v := 1) (by decide) ?_
  refine u_9_1 F w (a := 44) rfl tb_64 dX9_addSyllable_16 (fun H locs w => ?_)
  refine lv_aload_n hx hb dX9_addSyllable_19 rfl (lv_at hl 0 rfl) ?_
  refine lv_aload_n hx hb dX9_addSyllable_20 rfl (lv_at hl 0 rfl) ?_
  refine f_9_1 F w (a := 44) rfl tb_64 dX9_addSyllable_21 ?_
  refine r_val (v := 1) (st_at) ?_
  refine lv_iconst (v := 1) hx hb dX9_addSyllable_24 (by decide) ?_
  refine lv_isub hx hb dX9_addSyllable_25 ?_
  refine r_val (v := 0) (by decide) ?_
  refine lv_iload_n hx hb dX9_addSyllable_26 rfl (lv_at hl 1 rfl) ?_
  refine lv_iload_n hx hb dX9_addSyllable_27 rfl (lv_at hl 2 rfl) ?_
  refine x_Vv F w (As := [.int 0, .int 1, .int 0]) (rest := []) (a := 44) (by decide) (sh_9 rfl _ _) rfl (c_X9_setSyllable_163 ((st_ne (by decide)).trans h1) ((st_ne (by decide)).trans h2)) gv_X9_56 hv_X9_setSyllable ⟨Nat.le_of_ble_eq_true rfl, Nat.le_of_ble_eq_true rfl⟩ hl.1 rfl (Nat.le_of_ble_eq_true rfl) ⟨Nat.zero_le _, Nat.zero_le _⟩ dX9_addSyllable_28 (fun H locs w => ?_)
  exact e_v F w hr hlocks rfl dX9_addSyllable_31
set_option maxRecDepth 4000 in
theorem c_X11_grow_165 {l : Launch} {D : va_G} {B : Nat} {cy : Nat → ClassId} {M : Mem} (h0 : M.1 44 1 = 0) (h1 : M.1 71 1 = 0) (h2 : M.1 73 1 = 0) (h3 : M.1 44 2 = 0) (h4 : M.1 73 2 = 0) (h5 : M.1 44 3 = 0) (h6 : M.1 73 3 = 0) (h7 : M.1 44 0 = 0) (h8 : M.1 73 0 = 0) (h9 : ∀ k, k < 12 → M.1 45 k = 0) (h10 : ∀ k, k < 12 → M.1 74 k = 0) (h11 : ∀ k, k < 12 → M.1 46 k = 0) (h12 : ∀ k, k < 12 → M.1 75 k = 0) (h13 : M.1 71 2 = 0) (h14 : M.1 22 7 = 0) (h15 : M.1 109 0 = 0) (h16 : M.1 135 0 = 0) : Ci l D B cy yX11_grow cX11_grow 3 (some .boolean) 4 102 [.ref (B + 0), .int 1, .int 0] M (fun r M1 => r = 1 ∧ M1 = (st (st (st (st M 71 1 1) 71 2 1) 44 1 1) 44 2 1)) := by
  refine s_any (by decide) (Nat.le_of_ble_eq_true rfl) ?_
  intro p e s m below meth c ls F hr hlocks w hl
  have F : CallFix p m c cX11_grow 3 s _ TB RX11 := F
  have hx := F.1
  have hb := F.2.1
  have hl : lv_has ls 3 [(0, .ref (B + 0)), (1, .int 1), (2, .int 0)] := hl
  refine lv_aload_n hx hb dX11_grow_0 rfl (lv_at hl 0 rfl) ?_
  refine f_11_4 F w (a := 0) rfl tb_75 dX11_grow_1 ?_
  refine f_9_1 F w (a := 44) rfl tb_302 dX11_grow_4 ?_
  refine r_val (v := 0) (h0) ?_
  refine lv_bipush (v := 12) hx hb dX11_grow_7 (by decide) ?_
  refine lv_icmp_lt (tgt := 14) hx hb dX11_grow_9 (by decide) (fun _ => ?_) (fun c1 => absurd c1 (by decide))
  refine lv_aload_n hx hb dX11_grow_14 rfl (lv_at hl 0 rfl) ?_
  refine x_Vv F w (As := []) (rest := []) (a := 0) (by decide) (sh_11 rfl _ _) rfl (c_X11_beginAct_120 (h1) (h0) (h2) (h3) (h4) (h5) (h6) (h7) (h8) (fun k hk => (h9 k hk)) (fun k hk => (h10 k hk)) (fun k hk => (h11 k hk)) (fun k hk => (h12 k hk)) (h13) (h14) (h15) (h16)) gv_X11_123 hv_X11_beginAct ⟨Nat.le_of_ble_eq_true rfl, Nat.le_of_ble_eq_true rfl⟩ hl.1 rfl (Nat.le_of_ble_eq_true rfl) ⟨Nat.zero_le _, Nat.zero_le _⟩ dX11_grow_15 (fun H locs w => ?_)
  refine lv_aload_n hx hb dX11_grow_18 rfl (lv_at hl 0 rfl) ?_
  refine f_11_4 F w (a := 0) rfl tb_75 dX11_grow_19 ?_
  refine lv_iload_n hx hb dX11_grow_22 rfl (lv_at hl 1 rfl) ?_
  refine lv_iload_n hx hb dX11_grow_23 rfl (lv_at hl 2 rfl) ?_
  refine x_Vv F w (As := [.int 1, .int 0]) (rest := []) (a := 44) (by decide) (sh_9 rfl _ _) rfl (c_X9_addSyllable_164 ((st_ne (by decide)).trans ((st_ne (by decide)).trans h0)) ((st_ne (by decide)).trans ((st_ne (by decide)).trans h3)) ((st_ne (by decide)).trans ((st_ne (by decide)).trans h5))) gv_X11_153 hv_X9_addSyllable ⟨Nat.le_of_ble_eq_true rfl, Nat.le_of_ble_eq_true rfl⟩ hl.1 rfl (Nat.le_of_ble_eq_true rfl) ⟨Nat.zero_le _, Nat.zero_le _⟩ dX11_grow_24 (fun H locs w => ?_)
  refine lv_iconst (v := 1) hx hb dX11_grow_27 (by decide) ?_
  exact e_z F w hr hlocks (by decide) ⟨rfl, rfl⟩ dX11_grow_28
theorem dL_law_470 : decode cL_law 470 = .ok (.iconst 1, 1) := by decide +kernel
theorem dL_law_471 : decode cL_law 471 = .ok (.goto 4, 3) := by decide +kernel
theorem dX12_marks_15 : decode cX12_marks 15 = .ok (.aload_n 0, 1) := by decide +kernel
theorem dX12_marks_16 : decode cX12_marks 16 = .ok (.getfield 13, 3) := by decide +kernel
theorem dX12_marks_19 : decode cX12_marks 19 = .ok (.bipush 26, 2) := by decide +kernel
theorem dX12_marks_21 : decode cX12_marks 21 = .ok (.iaload, 1) := by decide +kernel
theorem dX12_marks_22 : decode cX12_marks 22 = .ok (.iload 4, 2) := by decide +kernel
theorem dX12_marks_24 : decode cX12_marks 24 = .ok (.ior, 1) := by decide +kernel
theorem dX12_marks_25 : decode cX12_marks 25 = .ok (.goto 15, 3) := by decide +kernel
set_option maxRecDepth 4000 in
theorem c_X12_marks_166 {l : Launch} {D : va_G} {B : Nat} {cy : Nat → ClassId} {M : Mem} (h0 : M.1 147 26 = 0) (h1 : M.1 147 27 = 0) : Cv l D B cy yX12_marks cX12_marks 5 0 0 [.ref (B + 146), .int 0, .int 1, .int 0] M (fun M1 => M1 = (st M 147 26 1)) := by
  refine s_any (by decide) (Nat.le_of_ble_eq_true rfl) ?_
  intro p e s m below meth c ls F hr hlocks w hl
  have F : CallFix p m c cX12_marks 5 s _ TB RX12 := F
  have hx := F.1
  have hb := F.2.1
  have hl : lv_has ls 5 [(0, .ref (B + 146)), (1, .int 0), (2, .int 1), (3, .int 0)] := hl
  refine lv_iconst (v := 1) hx hb dX12_marks_0 (by decide) ?_
  refine lv_iload_n hx hb dX12_marks_1 rfl (lv_at hl 1 rfl) ?_
  refine lv_ishl hx hb dX12_marks_2 ?_
  refine r_val (v := 1) (by decide) ?_
  refine lv_istore (lv' := [(4, .int 1), (0, .ref (B + 146)), (1, .int 0), (2, .int 1), (3, .int 0)]) hx hb dX12_marks_3 hl (by decide) rfl (fun ls hl => ?_)
  refine lv_aload_n hx hb dX12_marks_5 rfl (lv_at hl 1 rfl) ?_
  refine f_12_1 F w (a := 146) rfl tb_126 dX12_marks_6 ?_
  refine lv_bipush (v := 26) hx hb dX12_marks_9 (by decide) ?_
  refine lv_iload_n hx hb dX12_marks_11 rfl (lv_at hl 3 rfl) ?_
  refine lv_if_eq (tgt := 28) hx hb dX12_marks_12 (by decide) (fun c1 => absurd c1 (by decide)) (fun _ => ?_)
  refine lv_aload_n hx hb dX12_marks_15 rfl (lv_at hl 1 rfl) ?_
  refine f_12_1 F w (a := 146) rfl tb_126 dX12_marks_16 ?_
  refine lv_bipush (v := 26) hx hb dX12_marks_19 (by decide) ?_
  refine g_iald F w (a := 147) rfl (j := 26) ⟨by decide, by decide⟩ (by decide) dX12_marks_21 ?_
  refine r_val (v := 0) (h0) ?_
  refine lv_iload hx hb dX12_marks_22 (lv_at hl 0 rfl) ?_
  refine lv_ior hx hb dX12_marks_24 ?_
  refine r_val (v := 1) (by decide) ?_
  refine lv_goto (tgt := 40) hx hb dX12_marks_25 (by decide) ?_
  refine g_iast F w (a := 147) rfl (j := 26) ⟨by decide, by decide⟩ (by decide) dX12_marks_40 (fun H locs w => ?_)
  refine lv_aload_n hx hb dX12_marks_41 rfl (lv_at hl 1 rfl) ?_
  refine f_12_1 F w (a := 146) rfl tb_126 dX12_marks_42 ?_
  refine lv_bipush (v := 27) hx hb dX12_marks_45 (by decide) ?_
  refine lv_iload_n hx hb dX12_marks_47 rfl (lv_at hl 4 rfl) ?_
  refine lv_if_eq (tgt := 64) hx hb dX12_marks_48 (by decide) (fun _ => ?_) (fun c1 => absurd c1 (by decide))
  refine lv_aload_n hx hb dX12_marks_64 rfl (lv_at hl 1 rfl) ?_
  refine f_12_1 F w (a := 146) rfl tb_126 dX12_marks_65 ?_
  refine lv_bipush (v := 27) hx hb dX12_marks_68 (by decide) ?_
  refine g_iald F w (a := 147) rfl (j := 27) ⟨by decide, by decide⟩ (by decide) dX12_marks_70 ?_
  refine r_val (v := 0) ((st_ne (by decide)).trans h1) ?_
  refine lv_iload hx hb dX12_marks_71 (lv_at hl 0 rfl) ?_
  refine lv_iconst (v := (-1)) hx hb dX12_marks_73 (by decide) ?_
  refine lv_ixor hx hb dX12_marks_74 ?_
  refine r_val (v := (-2)) (by decide) ?_
  refine lv_iand hx hb dX12_marks_75 ?_
  refine r_val (v := 0) (by decide) ?_
  refine g_iast F w (a := 147) rfl (j := 27) ⟨by decide, by decide⟩ (by decide) dX12_marks_76 (fun H locs w => ?_)
  rw [st_same ((st_ne (by decide)).trans h1)] at w
  exact e_v F w hr hlocks rfl dX12_marks_77
set_option maxRecDepth 4000 in
theorem c_X12_grow_167 {l : Launch} {D : va_G} {B : Nat} {cy : Nat → ClassId} {M : Mem} (h0 : M.1 147 25 = 0) (h1 : M.1 146 20 = 0) (h2 : M.1 147 0 = 0) (h3 : M.1 155 0 = 0) (h4 : M.1 147 1 = 0) (h5 : M.1 155 1 = 0) (h6 : M.1 147 2 = 0) (h7 : M.1 155 2 = 0) (h8 : M.1 147 3 = 0) (h9 : M.1 155 3 = 0) (h10 : M.1 147 4 = 0) (h11 : M.1 155 4 = 0) (h12 : M.1 147 5 = 0) (h13 : M.1 155 5 = 0) (h14 : M.1 147 6 = 0) (h15 : M.1 155 6 = 0) (h16 : M.1 147 7 = 0) (h17 : M.1 155 7 = 0) (h18 : M.1 147 8 = 0) (h19 : M.1 155 8 = 0) (h20 : M.1 147 9 = 0) (h21 : M.1 155 9 = 0) (h22 : M.1 147 10 = 0) (h23 : M.1 155 10 = 0) (h24 : M.1 147 11 = 0) (h25 : M.1 155 11 = 0) (h26 : M.1 147 12 = 0) (h27 : M.1 155 12 = 0) (h28 : M.1 147 13 = 0) (h29 : M.1 155 13 = 0) (h30 : M.1 147 14 = 0) (h31 : M.1 155 14 = 0) (h32 : M.1 147 15 = 0) (h33 : M.1 155 15 = 0) (h34 : M.1 147 16 = 0) (h35 : M.1 155 16 = 0) (h36 : M.1 147 17 = 0) (h37 : M.1 155 17 = 0) (h38 : M.1 147 18 = 0) (h39 : M.1 155 18 = 0) (h40 : M.1 147 19 = 0) (h41 : M.1 155 19 = 0) (h42 : M.1 147 20 = 0) (h43 : M.1 155 20 = 0) (h44 : M.1 147 21 = 0) (h45 : M.1 155 21 = 0) (h46 : M.1 147 22 = 0) (h47 : M.1 155 22 = 0) (h48 : M.1 147 23 = 0) (h49 : M.1 155 23 = 0) (h50 : M.1 147 24 = 0) (h51 : M.1 155 24 = 0) (h52 : M.1 155 25 = 0) (h53 : M.1 147 26 = 0) (h54 : M.1 155 26 = 0) (h55 : M.1 147 27 = 0) (h56 : M.1 155 27 = 0) : Ci l D B cy yX12_grow cX12_grow 4 (some .boolean) 1 24 [.ref (B + 146), .int 1, .int 0] M (fun r M1 => r = 1 ∧ M1 = (st (st (st M 146 20 1) 147 25 1) 147 26 1)) := by
  refine s_any (by decide) (Nat.le_of_ble_eq_true rfl) ?_
  intro p e s m below meth c ls F hr hlocks w hl
  have F : CallFix p m c cX12_grow 4 s _ TB RX12 := F
  have hx := F.1
  have hb := F.2.1
  have hl : lv_has ls 4 [(0, .ref (B + 146)), (1, .int 1), (2, .int 0)] := hl
  refine lv_aload_n hx hb dX12_grow_0 rfl (lv_at hl 0 rfl) ?_
  refine f_12_1 F w (a := 146) rfl tb_126 dX12_grow_1 ?_
  refine lv_bipush (v := 25) hx hb dX12_grow_4 (by decide) ?_
  refine g_iald F w (a := 147) rfl (j := 25) ⟨by decide, by decide⟩ (by decide) dX12_grow_6 ?_
  refine r_val (v := 0) (h0) ?_
  refine lv_istore_n (lv' := [(3, .int 0), (0, .ref (B + 146)), (1, .int 1), (2, .int 0)]) hx hb dX12_grow_7 rfl hl (by decide) rfl (fun ls hl => ?_)
  refine lv_iload_n hx hb dX12_grow_8 rfl (lv_at hl 0 rfl) ?_
  refine lv_bipush (v := 12) hx hb dX12_grow_9 (by decide) ?_
  refine lv_icmp_ne (tgt := 16) hx hb dX12_grow_11 (by decide) (fun _ => ?_) (fun c1 => absurd c1 (by decide))
  refine lv_aload_n hx hb dX12_grow_16 rfl (lv_at hl 1 rfl) ?_
  refine x_Vv F w (As := []) (rest := []) (a := 146) (by decide) (sh_12 rfl _ _) rfl (c_X12_keeps_124 (h1) (h2) (h3) (h4) (h5) (h6) (h7) (h8) (h9) (h10) (h11) (h12) (h13) (h14) (h15) (h16) (h17) (h18) (h19) (h20) (h21) (h22) (h23) (h24) (h25) (h26) (h27) (h28) (h29) (h30) (h31) (h32) (h33) (h34) (h35) (h36) (h37) (h38) (h39) (h40) (h41) (h42) (h43) (h44) (h45) (h46) (h47) (h48) (h49) (h50) (h51) (h0) (h52) (h53) (h54) (h55) (h56)) gv_X12_242 hv_X12_keeps ⟨Nat.le_of_ble_eq_true rfl, Nat.le_of_ble_eq_true rfl⟩ hl.1 rfl (Nat.le_of_ble_eq_true rfl) ⟨Nat.zero_le _, Nat.zero_le _⟩ dX12_grow_17 (fun H locs w => ?_)
  refine lv_aload_n hx hb dX12_grow_20 rfl (lv_at hl 1 rfl) ?_
  refine f_12_1 F w (a := 146) rfl tb_126 dX12_grow_21 ?_
  refine lv_bipush (v := 25) hx hb dX12_grow_24 (by decide) ?_
  refine lv_dup2_11 hx hb dX12_grow_26 rfl rfl ?_
  refine g_iald F w (a := 147) rfl (j := 25) ⟨by decide, by decide⟩ (by decide) dX12_grow_27 ?_
  refine r_val (v := 0) ((st_ne (by decide)).trans h0) ?_
  refine lv_iconst (v := 1) hx hb dX12_grow_28 (by decide) ?_
  refine lv_iadd hx hb dX12_grow_29 ?_
  refine r_val (v := 1) (by decide) ?_
  refine g_iast F w (a := 147) rfl (j := 25) ⟨by decide, by decide⟩ (by decide) dX12_grow_30 (fun H locs w => ?_)
  refine lv_aload_n hx hb dX12_grow_31 rfl (lv_at hl 1 rfl) ?_
  refine lv_iload_n hx hb dX12_grow_32 rfl (lv_at hl 0 rfl) ?_
  refine lv_iload_n hx hb dX12_grow_33 rfl (lv_at hl 2 rfl) ?_
  refine lv_iload_n hx hb dX12_grow_34 rfl (lv_at hl 3 rfl) ?_
  refine x_Vv F w (As := [.int 0, .int 1, .int 0]) (rest := []) (a := 146) (by decide) (sh_12 rfl _ _) rfl (c_X12_marks_166 ((st_ne (by decide)).trans ((st_ne (by decide)).trans h53)) ((st_ne (by decide)).trans ((st_ne (by decide)).trans h55))) gv_X12_245 hv_X12_marks ⟨Nat.le_of_ble_eq_true rfl, Nat.le_of_ble_eq_true rfl⟩ hl.1 rfl (Nat.le_of_ble_eq_true rfl) ⟨Nat.zero_le _, Nat.zero_le _⟩ dX12_grow_35 (fun H locs w => ?_)
  refine lv_iconst (v := 1) hx hb dX12_grow_38 (by decide) ?_
  exact e_z F w hr hlocks (by decide) ⟨rfl, rfl⟩ dX12_grow_39
set_option maxRecDepth 8000 in
theorem la_9_24 {p : Program} {l : Launch} {e : Env} {s : State} {m : MethodId} {below : List Frame} {meth : Method} {c : Code} {D : va_G} {B b : Nat} {cy : Nat → ClassId} {H : Heap} {locs : List Loc} {ls : Array Slot} {xs : Nat → Int32} {Q : State → Prop} (F : CallFix p m c code 4 s #[Value.ref b] TB RL) (hX : va_X b 6 xs s s.heap) (hbl : b < s.heap.size) (hbA : ¬ B ≤ b) (w : Wd D B cy s s.heap M0 H locs) (hl : lv_has ls 4 [(3, .int 0), (2, .ref (B + 146)), (1, .ref (B + 0)), (0, .ref b)]) (x2 : xs 2 = 0) (h0 : ¬ (xs 1) = 0) (kk : ∀ (M1 : Mem) (H1 : Heap) (locs1 : List Loc), Wd D B cy s s.heap M1 H1 locs1 → W p l e room_1 s m #[Value.ref b] below meth c H1 locs1 159 13107 Q (F0 m 1065 ls [])) : W p l e room_1 s m #[Value.ref b] below meth c H locs 159 13107 Q (F0 m 431 ls []) := by
  have hx := F.1
  have hb := F.2.1
  refine lv_aload_n hx hb dL_law_431 rfl (lv_at hl 2 rfl) ?_
  refine lv_aload_n hx hb dL_law_432 rfl (lv_at hl 3 rfl) ?_
  refine lv_iload_n hx hb dL_law_433 rfl (lv_at hl 0 rfl) ?_
  refine lv_iconst (v := 1) hx hb dL_law_434 (by decide) ?_
  refine lv_iadd hx hb dL_law_435 ?_
  refine r_val (v := 1) (by decide) ?_
  refine va_sld hx hb hX hbl hbA w.2.2.1 (vpi (by decide) (by decide)) dL_law_436 ?_
  refine r_val (v := xs 1) (congrArg xs (show (1 : Int32).toNatClampNeg = 1 by decide)) ?_
  refine lv_if_eq (tgt := 444) hx hb dL_law_437 (by decide) (fun c1 => absurd c1 h0) (fun _ => ?_)
  refine lv_iconst (v := 1) hx hb dL_law_440 (by decide) ?_
  refine lv_goto (tgt := 445) hx hb dL_law_441 (by decide) ?_
  refine lv_aload_n hx hb dL_law_445 rfl (lv_at hl 3 rfl) ?_
  refine lv_iload_n hx hb dL_law_446 rfl (lv_at hl 0 rfl) ?_
  refine lv_iconst (v := 2) hx hb dL_law_447 (by decide) ?_
  refine lv_iadd hx hb dL_law_448 ?_
  refine r_val (v := 2) (by decide) ?_
  refine va_sld hx hb hX hbl hbA w.2.2.1 (vpi (by decide) (by decide)) dL_law_449 ?_
  refine r_val (v := 0) ((congrArg xs (show (2 : Int32).toNatClampNeg = 2 by decide)).trans x2) ?_
  refine lv_if_eq (tgt := 457) hx hb dL_law_450 (by decide) (fun _ => ?_) (fun c1 => absurd c1 (by decide))
  refine lv_iconst (v := 0) hx hb dL_law_457 (by decide) ?_
  refine x_Vi F w (As := [.int 1, .int 0]) (rest := []) (a := 0) (by decide) (sh_11 rfl _ _) rfl (c_X11_grow_165 (rfl) (rfl) (rfl) (rfl) (rfl) (rfl) (rfl) (rfl) (rfl) (fun k hk => ((fun k hk => rfl) k hk)) (fun k hk => ((fun k hk => rfl) k hk)) (fun k hk => ((fun k hk => rfl) k hk)) (fun k hk => ((fun k hk => rfl) k hk)) (rfl) (rfl) (rfl) (rfl)) gv_L_55 hv_X11_grow ⟨Nat.le_of_ble_eq_true rfl, Nat.le_of_ble_eq_true rfl⟩ hl.1 rfl (Nat.le_of_ble_eq_true rfl) ⟨Nat.le_of_ble_eq_true rfl, Nat.le_of_ble_eq_true rfl⟩ dL_law_458 (fun H locs w => ?_)
  refine lv_aload_n hx hb dL_law_461 rfl (lv_at hl 1 rfl) ?_
  refine lv_aload_n hx hb dL_law_462 rfl (lv_at hl 3 rfl) ?_
  refine lv_iload_n hx hb dL_law_463 rfl (lv_at hl 0 rfl) ?_
  refine lv_iconst (v := 1) hx hb dL_law_464 (by decide) ?_
  refine lv_iadd hx hb dL_law_465 ?_
  refine r_val (v := 1) (by decide) ?_
  refine va_sld hx hb hX hbl hbA w.2.2.1 (vpi (by decide) (by decide)) dL_law_466 ?_
  refine r_val (v := xs 1) (congrArg xs (show (1 : Int32).toNatClampNeg = 1 by decide)) ?_
  refine lv_if_eq (tgt := 474) hx hb dL_law_467 (by decide) (fun c1 => absurd c1 h0) (fun _ => ?_)
  refine lv_iconst (v := 1) hx hb dL_law_470 (by decide) ?_
  refine lv_goto (tgt := 475) hx hb dL_law_471 (by decide) ?_
  refine lv_aload_n hx hb dL_law_475 rfl (lv_at hl 3 rfl) ?_
  refine lv_iload_n hx hb dL_law_476 rfl (lv_at hl 0 rfl) ?_
  refine lv_iconst (v := 2) hx hb dL_law_477 (by decide) ?_
  refine lv_iadd hx hb dL_law_478 ?_
  refine r_val (v := 2) (by decide) ?_
  refine va_sld hx hb hX hbl hbA w.2.2.1 (vpi (by decide) (by decide)) dL_law_479 ?_
  refine r_val (v := 0) ((congrArg xs (show (2 : Int32).toNatClampNeg = 2 by decide)).trans x2) ?_
  refine lv_if_eq (tgt := 487) hx hb dL_law_480 (by decide) (fun _ => ?_) (fun c1 => absurd c1 (by decide))
  refine lv_iconst (v := 0) hx hb dL_law_487 (by decide) ?_
  refine x_Vi F w (As := [.int 1, .int 0]) (rest := [.int 1]) (a := 146) (by decide) (sh_12 rfl _ _) rfl (c_X12_grow_167 ((st_ne (by decide)).trans ((st_ne (by decide)).trans ((st_ne (by decide)).trans ((st_ne (by decide)).trans rfl)))) ((st_ne (by decide)).trans ((st_ne (by decide)).trans ((st_ne (by decide)).trans ((st_ne (by decide)).trans rfl)))) ((st_ne (by decide)).trans ((st_ne (by decide)).trans ((st_ne (by decide)).trans ((st_ne (by decide)).trans rfl)))) ((st_ne (by decide)).trans ((st_ne (by decide)).trans ((st_ne (by decide)).trans ((st_ne (by decide)).trans rfl)))) ((st_ne (by decide)).trans ((st_ne (by decide)).trans ((st_ne (by decide)).trans ((st_ne (by decide)).trans rfl)))) ((st_ne (by decide)).trans ((st_ne (by decide)).trans ((st_ne (by decide)).trans ((st_ne (by decide)).trans rfl)))) ((st_ne (by decide)).trans ((st_ne (by decide)).trans ((st_ne (by decide)).trans ((st_ne (by decide)).trans rfl)))) ((st_ne (by decide)).trans ((st_ne (by decide)).trans ((st_ne (by decide)).trans ((st_ne (by decide)).trans rfl)))) ((st_ne (by decide)).trans ((st_ne (by decide)).trans ((st_ne (by decide)).trans ((st_ne (by decide)).trans rfl)))) ((st_ne (by decide)).trans ((st_ne (by decide)).trans ((st_ne (by decide)).trans ((st_ne (by decide)).trans rfl)))) ((st_ne (by decide)).trans ((st_ne (by decide)).trans ((st_ne (by decide)).trans ((st_ne (by decide)).trans rfl)))) ((st_ne (by decide)).trans ((st_ne (by decide)).trans ((st_ne (by decide)).trans ((st_ne (by decide)).trans rfl)))) ((st_ne (by decide)).trans ((st_ne (by decide)).trans ((st_ne (by decide)).trans ((st_ne (by decide)).trans rfl)))) ((st_ne (by decide)).trans ((st_ne (by decide)).trans ((st_ne (by decide)).trans ((st_ne (by decide)).trans rfl)))) ((st_ne (by decide)).trans ((st_ne (by decide)).trans ((st_ne (by decide)).trans ((st_ne (by decide)).trans rfl)))) ((st_ne (by decide)).trans ((st_ne (by decide)).trans ((st_ne (by decide)).trans ((st_ne (by decide)).trans rfl)))) ((st_ne (by decide)).trans ((st_ne (by decide)).trans ((st_ne (by decide)).trans ((st_ne (by decide)).trans rfl)))) ((st_ne (by decide)).trans ((st_ne (by decide)).trans ((st_ne (by decide)).trans ((st_ne (by decide)).trans rfl)))) ((st_ne (by decide)).trans ((st_ne (by decide)).trans ((st_ne (by decide)).trans ((st_ne (by decide)).trans rfl)))) ((st_ne (by decide)).trans ((st_ne (by decide)).trans ((st_ne (by decide)).trans ((st_ne (by decide)).trans rfl)))) ((st_ne (by decide)).trans ((st_ne (by decide)).trans ((st_ne (by decide)).trans ((st_ne (by decide)).trans rfl)))) ((st_ne (by decide)).trans ((st_ne (by decide)).trans ((st_ne (by decide)).trans ((st_ne (by decide)).trans rfl)))) ((st_ne (by decide)).trans ((st_ne (by decide)).trans ((st_ne (by decide)).trans ((st_ne (by decide)).trans rfl)))) ((st_ne (by decide)).trans ((st_ne (by decide)).trans ((st_ne (by decide)).trans ((st_ne (by decide)).trans rfl)))) ((st_ne (by decide)).trans ((st_ne (by decide)).trans ((st_ne (by decide)).trans ((st_ne (by decide)).trans rfl)))) ((st_ne (by decide)).trans ((st_ne (by decide)).trans ((st_ne (by decide)).trans ((st_ne (by decide)).trans rfl)))) ((st_ne (by decide)).trans ((st_ne (by decide)).trans ((st_ne (by decide)).trans ((st_ne (by decide)).trans rfl)))) ((st_ne (by decide)).trans ((st_ne (by decide)).trans ((st_ne (by decide)).trans ((st_ne (by decide)).trans rfl)))) ((st_ne (by decide)).trans ((st_ne (by decide)).trans ((st_ne (by decide)).trans ((st_ne (by decide)).trans rfl)))) ((st_ne (by decide)).trans ((st_ne (by decide)).trans ((st_ne (by decide)).trans ((st_ne (by decide)).trans rfl)))) ((st_ne (by decide)).trans ((st_ne (by decide)).trans ((st_ne (by decide)).trans ((st_ne (by decide)).trans rfl)))) ((st_ne (by decide)).trans ((st_ne (by decide)).trans ((st_ne (by decide)).trans ((st_ne (by decide)).trans rfl)))) ((st_ne (by decide)).trans ((st_ne (by decide)).trans ((st_ne (by decide)).trans ((st_ne (by decide)).trans rfl)))) ((st_ne (by decide)).trans ((st_ne (by decide)).trans ((st_ne (by decide)).trans ((st_ne (by decide)).trans rfl)))) ((st_ne (by decide)).trans ((st_ne (by decide)).trans ((st_ne (by decide)).trans ((st_ne (by decide)).trans rfl)))) ((st_ne (by decide)).trans ((st_ne (by decide)).trans ((st_ne (by decide)).trans ((st_ne (by decide)).trans rfl)))) ((st_ne (by decide)).trans ((st_ne (by decide)).trans ((st_ne (by decide)).trans ((st_ne (by decide)).trans rfl)))) ((st_ne (by decide)).trans ((st_ne (by decide)).trans ((st_ne (by decide)).trans ((st_ne (by decide)).trans rfl)))) ((st_ne (by decide)).trans ((st_ne (by decide)).trans ((st_ne (by decide)).trans ((st_ne (by decide)).trans rfl)))) ((st_ne (by decide)).trans ((st_ne (by decide)).trans ((st_ne (by decide)).trans ((st_ne (by decide)).trans rfl)))) ((st_ne (by decide)).trans ((st_ne (by decide)).trans ((st_ne (by decide)).trans ((st_ne (by decide)).trans rfl)))) ((st_ne (by decide)).trans ((st_ne (by decide)).trans ((st_ne (by decide)).trans ((st_ne (by decide)).trans rfl)))) ((st_ne (by decide)).trans ((st_ne (by decide)).trans ((st_ne (by decide)).trans ((st_ne (by decide)).trans rfl)))) ((st_ne (by decide)).trans ((st_ne (by decide)).trans ((st_ne (by decide)).trans ((st_ne (by decide)).trans rfl)))) ((st_ne (by decide)).trans ((st_ne (by decide)).trans ((st_ne (by decide)).trans ((st_ne (by decide)).trans rfl)))) ((st_ne (by decide)).trans ((st_ne (by decide)).trans ((st_ne (by decide)).trans ((st_ne (by decide)).trans rfl)))) ((st_ne (by decide)).trans ((st_ne (by decide)).trans ((st_ne (by decide)).trans ((st_ne (by decide)).trans rfl)))) ((st_ne (by decide)).trans ((st_ne (by decide)).trans ((st_ne (by decide)).trans ((st_ne (by decide)).trans rfl)))) ((st_ne (by decide)).trans ((st_ne (by decide)).trans ((st_ne (by decide)).trans ((st_ne (by decide)).trans rfl)))) ((st_ne (by decide)).trans ((st_ne (by decide)).trans ((st_ne (by decide)).trans ((st_ne (by decide)).trans rfl)))) ((st_ne (by decide)).trans ((st_ne (by decide)).trans ((st_ne (by decide)).trans ((st_ne (by decide)).trans rfl)))) ((st_ne (by decide)).trans ((st_ne (by decide)).trans ((st_ne (by decide)).trans ((st_ne (by decide)).trans rfl)))) ((st_ne (by decide)).trans ((st_ne (by decide)).trans ((st_ne (by decide)).trans ((st_ne (by decide)).trans rfl)))) ((st_ne (by decide)).trans ((st_ne (by decide)).trans ((st_ne (by decide)).trans ((st_ne (by decide)).trans rfl)))) ((st_ne (by decide)).trans ((st_ne (by decide)).trans ((st_ne (by decide)).trans ((st_ne (by decide)).trans rfl)))) ((st_ne (by decide)).trans ((st_ne (by decide)).trans ((st_ne (by decide)).trans ((st_ne (by decide)).trans rfl)))) ((st_ne (by decide)).trans ((st_ne (by decide)).trans ((st_ne (by decide)).trans ((st_ne (by decide)).trans rfl))))) gv_L_59 hv_X12_grow ⟨Nat.le_of_ble_eq_true rfl, Nat.le_of_ble_eq_true rfl⟩ hl.1 rfl (Nat.le_of_ble_eq_true rfl) ⟨Nat.le_of_ble_eq_true rfl, Nat.le_of_ble_eq_true rfl⟩ dL_law_488 (fun H locs w => ?_)
  refine lv_icmp_eq (tgt := 1065) hx hb dL_law_491 (by decide) (fun _ => ?_) (fun c1 => absurd c1 (by decide))
  exact kk _ _ _ w
set_option maxRecDepth 4000 in
theorem c_X9_setSyllable_168 {l : Launch} {D : va_G} {B : Nat} {cy : Nat → ClassId} {M : Mem} (h0 : M.1 44 2 = 0) (h1 : M.1 44 3 = 0) : Cv l D B cy yX9_setSyllable cX9_setSyllable 5 0 0 [.ref (B + 44), .int 0, .int 1, .int 1] M (fun M1 => M1 = (st (st M 44 2 1) 44 3 1)) := by
  refine s_any (by decide) (Nat.le_of_ble_eq_true rfl) ?_
  intro p e s m below meth c ls F hr hlocks w hl
  have F : CallFix p m c cX9_setSyllable 5 s _ TB RX9 := F
  have hx := F.1
  have hb := F.2.1
  have hl : lv_has ls 5 [(0, .ref (B + 44)), (1, .int 0), (2, .int 1), (3, .int 1)] := hl
  refine lv_iconst (v := 1) hx hb dX9_setSyllable_0 (by decide) ?_
  refine lv_iload_n hx hb dX9_setSyllable_1 rfl (lv_at hl 1 rfl) ?_
  refine lv_ishl hx hb dX9_setSyllable_2 ?_
  refine r_val (v := 1) (by decide) ?_
  refine lv_istore (lv' := [(4, .int 1), (0, .ref (B + 44)), (1, .int 0), (2, .int 1), (3, .int 1)]) hx hb dX9_setSyllable_3 hl (by decide) rfl (fun ls hl => ?_)
  refine lv_aload_n hx hb dX9_setSyllable_5 rfl (lv_at hl 1 rfl) ?_
  refine lv_iload_n hx hb dX9_setSyllable_6 rfl (lv_at hl 3 rfl) ?_
  refine lv_if_eq (tgt := 20) hx hb dX9_setSyllable_7 (by decide) (fun c1 => absurd c1 (by decide)) (fun _ => ?_)
  refine lv_aload_n hx hb dX9_setSyllable_10 rfl (lv_at hl 1 rfl) ?_
  refine f_9_2 F w (a := 44) rfl tb_65 dX9_setSyllable_11 ?_
  refine r_val (v := 0) (h0) ?_
  refine lv_iload hx hb dX9_setSyllable_14 (lv_at hl 0 rfl) ?_
  refine lv_ior hx hb dX9_setSyllable_16 ?_
  refine r_val (v := 1) (by decide) ?_
  refine lv_goto (tgt := 29) hx hb dX9_setSyllable_17 (by decide) ?_
  refine u_9_2 F w (a := 44) rfl tb_65 dX9_setSyllable_29 (fun H locs w => ?_)
  refine lv_aload_n hx hb dX9_setSyllable_32 rfl (lv_at hl 1 rfl) ?_
  refine lv_iload_n hx hb dX9_setSyllable_33 rfl (lv_at hl 4 rfl) ?_
  refine lv_if_eq (tgt := 47) hx hb dX9_setSyllable_34 (by decide) (fun c1 => absurd c1 (by decide)) (fun _ => ?_)
  refine lv_aload_n hx hb dX9_setSyllable_37 rfl (lv_at hl 1 rfl) ?_
  refine f_9_3 F w (a := 44) rfl tb_66 dX9_setSyllable_38 ?_
  refine r_val (v := 0) ((st_ne (by decide)).trans h1) ?_
  refine lv_iload hx hb dX9_setSyllable_41 (lv_at hl 0 rfl) ?_
  refine lv_ior hx hb dX9_setSyllable_43 ?_
  refine r_val (v := 1) (by decide) ?_
  refine lv_goto (tgt := 56) hx hb dX9_setSyllable_44 (by decide) ?_
  refine u_9_3 F w (a := 44) rfl tb_66 dX9_setSyllable_56 (fun H locs w => ?_)
  exact e_v F w hr hlocks rfl dX9_setSyllable_59
set_option maxRecDepth 4000 in
theorem c_X9_addSyllable_169 {l : Launch} {D : va_G} {B : Nat} {cy : Nat → ClassId} {M : Mem} (h0 : M.1 44 1 = 0) (h1 : M.1 44 2 = 0) (h2 : M.1 44 3 = 0) : Cv l D B cy yX9_addSyllable cX9_addSyllable 3 1 24 [.ref (B + 44), .int 1, .int 1] M (fun M1 => M1 = (st (st (st M 44 1 1) 44 2 1) 44 3 1)) := by
  refine s_any (by decide) (Nat.le_of_ble_eq_true rfl) ?_
  intro p e s m below meth c ls F hr hlocks w hl
  have F : CallFix p m c cX9_addSyllable 3 s _ TB RX9 := F
  have hx := F.1
  have hb := F.2.1
  have hl : lv_has ls 3 [(0, .ref (B + 44)), (1, .int 1), (2, .int 1)] := hl
  refine lv_aload_n hx hb dX9_addSyllable_0 rfl (lv_at hl 0 rfl) ?_
  refine f_9_1 F w (a := 44) rfl tb_64 dX9_addSyllable_1 ?_
  refine r_val (v := 0) (h0) ?_
  refine lv_bipush (v := 12) hx hb dX9_addSyllable_4 (by decide) ?_
  refine lv_icmp_ge (tgt := 31) hx hb dX9_addSyllable_6 (by decide) (fun c1 => absurd c1 (by decide)) (fun _ => ?_)
  refine lv_aload_n hx hb dX9_addSyllable_9 rfl (lv_at hl 0 rfl) ?_
  refine lv_dup hx hb dX9_addSyllable_10 rfl ?_
  refine f_9_1 F w (a := 44) rfl tb_64 dX9_addSyllable_11 ?_
  refine r_val (v := 0) (h0) ?_
  refine lv_iconst (v := 1) hx hb dX9_addSyllable_14 (by decide) ?_
  refine lv_iadd hx hb dX9_addSyllable_15 ?_
  refine r_val (v := 1) (by decide) ?_
  refine u_9_1 F w (a := 44) rfl tb_64 dX9_addSyllable_16 (fun H locs w => ?_)
  refine lv_aload_n hx hb dX9_addSyllable_19 rfl (lv_at hl 0 rfl) ?_
  refine lv_aload_n hx hb dX9_addSyllable_20 rfl (lv_at hl 0 rfl) ?_
  refine f_9_1 F w (a := 44) rfl tb_64 dX9_addSyllable_21 ?_
  refine r_val (v := 1) (st_at) ?_
  refine lv_iconst (v := 1) hx hb dX9_addSyllable_24 (by decide) ?_
  refine lv_isub hx hb dX9_addSyllable_25 ?_
  refine r_val (v := 0) (by decide) ?_
  refine lv_iload_n hx hb dX9_addSyllable_26 rfl (lv_at hl 1 rfl) ?_
  refine lv_iload_n hx hb dX9_addSyllable_27 rfl (lv_at hl 2 rfl) ?_
  refine x_Vv F w (As := [.int 0, .int 1, .int 1]) (rest := []) (a := 44) (by decide) (sh_9 rfl _ _) rfl (c_X9_setSyllable_168 ((st_ne (by decide)).trans h1) ((st_ne (by decide)).trans h2)) gv_X9_56 hv_X9_setSyllable ⟨Nat.le_of_ble_eq_true rfl, Nat.le_of_ble_eq_true rfl⟩ hl.1 rfl (Nat.le_of_ble_eq_true rfl) ⟨Nat.zero_le _, Nat.zero_le _⟩ dX9_addSyllable_28 (fun H locs w => ?_)
  exact e_v F w hr hlocks rfl dX9_addSyllable_31
set_option maxRecDepth 4000 in
theorem c_X11_grow_170 {l : Launch} {D : va_G} {B : Nat} {cy : Nat → ClassId} {M : Mem} (h0 : M.1 44 1 = 0) (h1 : M.1 71 1 = 0) (h2 : M.1 73 1 = 0) (h3 : M.1 44 2 = 0) (h4 : M.1 73 2 = 0) (h5 : M.1 44 3 = 0) (h6 : M.1 73 3 = 0) (h7 : M.1 44 0 = 0) (h8 : M.1 73 0 = 0) (h9 : ∀ k, k < 12 → M.1 45 k = 0) (h10 : ∀ k, k < 12 → M.1 74 k = 0) (h11 : ∀ k, k < 12 → M.1 46 k = 0) (h12 : ∀ k, k < 12 → M.1 75 k = 0) (h13 : M.1 71 2 = 0) (h14 : M.1 22 7 = 0) (h15 : M.1 109 0 = 0) (h16 : M.1 135 0 = 0) : Ci l D B cy yX11_grow cX11_grow 3 (some .boolean) 4 102 [.ref (B + 0), .int 1, .int 1] M (fun r M1 => r = 1 ∧ M1 = (st (st (st (st (st M 71 1 1) 71 2 1) 44 1 1) 44 2 1) 44 3 1)) := by
  refine s_any (by decide) (Nat.le_of_ble_eq_true rfl) ?_
  intro p e s m below meth c ls F hr hlocks w hl
  have F : CallFix p m c cX11_grow 3 s _ TB RX11 := F
  have hx := F.1
  have hb := F.2.1
  have hl : lv_has ls 3 [(0, .ref (B + 0)), (1, .int 1), (2, .int 1)] := hl
  refine lv_aload_n hx hb dX11_grow_0 rfl (lv_at hl 0 rfl) ?_
  refine f_11_4 F w (a := 0) rfl tb_75 dX11_grow_1 ?_
  refine f_9_1 F w (a := 44) rfl tb_302 dX11_grow_4 ?_
  refine r_val (v := 0) (h0) ?_
  refine lv_bipush (v := 12) hx hb dX11_grow_7 (by decide) ?_
  refine lv_icmp_lt (tgt := 14) hx hb dX11_grow_9 (by decide) (fun _ => ?_) (fun c1 => absurd c1 (by decide))
  refine lv_aload_n hx hb dX11_grow_14 rfl (lv_at hl 0 rfl) ?_
  refine x_Vv F w (As := []) (rest := []) (a := 0) (by decide) (sh_11 rfl _ _) rfl (c_X11_beginAct_120 (h1) (h0) (h2) (h3) (h4) (h5) (h6) (h7) (h8) (fun k hk => (h9 k hk)) (fun k hk => (h10 k hk)) (fun k hk => (h11 k hk)) (fun k hk => (h12 k hk)) (h13) (h14) (h15) (h16)) gv_X11_123 hv_X11_beginAct ⟨Nat.le_of_ble_eq_true rfl, Nat.le_of_ble_eq_true rfl⟩ hl.1 rfl (Nat.le_of_ble_eq_true rfl) ⟨Nat.zero_le _, Nat.zero_le _⟩ dX11_grow_15 (fun H locs w => ?_)
  refine lv_aload_n hx hb dX11_grow_18 rfl (lv_at hl 0 rfl) ?_
  refine f_11_4 F w (a := 0) rfl tb_75 dX11_grow_19 ?_
  refine lv_iload_n hx hb dX11_grow_22 rfl (lv_at hl 1 rfl) ?_
  refine lv_iload_n hx hb dX11_grow_23 rfl (lv_at hl 2 rfl) ?_
  refine x_Vv F w (As := [.int 1, .int 1]) (rest := []) (a := 44) (by decide) (sh_9 rfl _ _) rfl (c_X9_addSyllable_169 ((st_ne (by decide)).trans ((st_ne (by decide)).trans h0)) ((st_ne (by decide)).trans ((st_ne (by decide)).trans h3)) ((st_ne (by decide)).trans ((st_ne (by decide)).trans h5))) gv_X11_153 hv_X9_addSyllable ⟨Nat.le_of_ble_eq_true rfl, Nat.le_of_ble_eq_true rfl⟩ hl.1 rfl (Nat.le_of_ble_eq_true rfl) ⟨Nat.zero_le _, Nat.zero_le _⟩ dX11_grow_24 (fun H locs w => ?_)
  refine lv_iconst (v := 1) hx hb dX11_grow_27 (by decide) ?_
  exact e_z F w hr hlocks (by decide) ⟨rfl, rfl⟩ dX11_grow_28
set_option maxRecDepth 4000 in
theorem c_X12_marks_171 {l : Launch} {D : va_G} {B : Nat} {cy : Nat → ClassId} {M : Mem} (h0 : M.1 147 26 = 0) (h1 : M.1 147 27 = 0) : Cv l D B cy yX12_marks cX12_marks 5 0 0 [.ref (B + 146), .int 0, .int 1, .int 1] M (fun M1 => M1 = (st (st M 147 26 1) 147 27 1)) := by
  refine s_any (by decide) (Nat.le_of_ble_eq_true rfl) ?_
  intro p e s m below meth c ls F hr hlocks w hl
  have F : CallFix p m c cX12_marks 5 s _ TB RX12 := F
  have hx := F.1
  have hb := F.2.1
  have hl : lv_has ls 5 [(0, .ref (B + 146)), (1, .int 0), (2, .int 1), (3, .int 1)] := hl
  refine lv_iconst (v := 1) hx hb dX12_marks_0 (by decide) ?_
  refine lv_iload_n hx hb dX12_marks_1 rfl (lv_at hl 1 rfl) ?_
  refine lv_ishl hx hb dX12_marks_2 ?_
  refine r_val (v := 1) (by decide) ?_
  refine lv_istore (lv' := [(4, .int 1), (0, .ref (B + 146)), (1, .int 0), (2, .int 1), (3, .int 1)]) hx hb dX12_marks_3 hl (by decide) rfl (fun ls hl => ?_)
  refine lv_aload_n hx hb dX12_marks_5 rfl (lv_at hl 1 rfl) ?_
  refine f_12_1 F w (a := 146) rfl tb_126 dX12_marks_6 ?_
  refine lv_bipush (v := 26) hx hb dX12_marks_9 (by decide) ?_
  refine lv_iload_n hx hb dX12_marks_11 rfl (lv_at hl 3 rfl) ?_
  refine lv_if_eq (tgt := 28) hx hb dX12_marks_12 (by decide) (fun c1 => absurd c1 (by decide)) (fun _ => ?_)
  refine lv_aload_n hx hb dX12_marks_15 rfl (lv_at hl 1 rfl) ?_
  refine f_12_1 F w (a := 146) rfl tb_126 dX12_marks_16 ?_
  refine lv_bipush (v := 26) hx hb dX12_marks_19 (by decide) ?_
  refine g_iald F w (a := 147) rfl (j := 26) ⟨by decide, by decide⟩ (by decide) dX12_marks_21 ?_
  refine r_val (v := 0) (h0) ?_
  refine lv_iload hx hb dX12_marks_22 (lv_at hl 0 rfl) ?_
  refine lv_ior hx hb dX12_marks_24 ?_
  refine r_val (v := 1) (by decide) ?_
  refine lv_goto (tgt := 40) hx hb dX12_marks_25 (by decide) ?_
  refine g_iast F w (a := 147) rfl (j := 26) ⟨by decide, by decide⟩ (by decide) dX12_marks_40 (fun H locs w => ?_)
  refine lv_aload_n hx hb dX12_marks_41 rfl (lv_at hl 1 rfl) ?_
  refine f_12_1 F w (a := 146) rfl tb_126 dX12_marks_42 ?_
  refine lv_bipush (v := 27) hx hb dX12_marks_45 (by decide) ?_
  refine lv_iload_n hx hb dX12_marks_47 rfl (lv_at hl 4 rfl) ?_
  refine lv_if_eq (tgt := 64) hx hb dX12_marks_48 (by decide) (fun c1 => absurd c1 (by decide)) (fun _ => ?_)
  refine lv_aload_n hx hb dX12_marks_51 rfl (lv_at hl 1 rfl) ?_
  refine f_12_1 F w (a := 146) rfl tb_126 dX12_marks_52 ?_
  refine lv_bipush (v := 27) hx hb dX12_marks_55 (by decide) ?_
  refine g_iald F w (a := 147) rfl (j := 27) ⟨by decide, by decide⟩ (by decide) dX12_marks_57 ?_
  refine r_val (v := 0) ((st_ne (by decide)).trans h1) ?_
  refine lv_iload hx hb dX12_marks_58 (lv_at hl 0 rfl) ?_
  refine lv_ior hx hb dX12_marks_60 ?_
  refine r_val (v := 1) (by decide) ?_
  refine lv_goto (tgt := 76) hx hb dX12_marks_61 (by decide) ?_
  refine g_iast F w (a := 147) rfl (j := 27) ⟨by decide, by decide⟩ (by decide) dX12_marks_76 (fun H locs w => ?_)
  exact e_v F w hr hlocks rfl dX12_marks_77
set_option maxRecDepth 4000 in
theorem c_X12_grow_172 {l : Launch} {D : va_G} {B : Nat} {cy : Nat → ClassId} {M : Mem} (h0 : M.1 147 25 = 0) (h1 : M.1 146 20 = 0) (h2 : M.1 147 0 = 0) (h3 : M.1 155 0 = 0) (h4 : M.1 147 1 = 0) (h5 : M.1 155 1 = 0) (h6 : M.1 147 2 = 0) (h7 : M.1 155 2 = 0) (h8 : M.1 147 3 = 0) (h9 : M.1 155 3 = 0) (h10 : M.1 147 4 = 0) (h11 : M.1 155 4 = 0) (h12 : M.1 147 5 = 0) (h13 : M.1 155 5 = 0) (h14 : M.1 147 6 = 0) (h15 : M.1 155 6 = 0) (h16 : M.1 147 7 = 0) (h17 : M.1 155 7 = 0) (h18 : M.1 147 8 = 0) (h19 : M.1 155 8 = 0) (h20 : M.1 147 9 = 0) (h21 : M.1 155 9 = 0) (h22 : M.1 147 10 = 0) (h23 : M.1 155 10 = 0) (h24 : M.1 147 11 = 0) (h25 : M.1 155 11 = 0) (h26 : M.1 147 12 = 0) (h27 : M.1 155 12 = 0) (h28 : M.1 147 13 = 0) (h29 : M.1 155 13 = 0) (h30 : M.1 147 14 = 0) (h31 : M.1 155 14 = 0) (h32 : M.1 147 15 = 0) (h33 : M.1 155 15 = 0) (h34 : M.1 147 16 = 0) (h35 : M.1 155 16 = 0) (h36 : M.1 147 17 = 0) (h37 : M.1 155 17 = 0) (h38 : M.1 147 18 = 0) (h39 : M.1 155 18 = 0) (h40 : M.1 147 19 = 0) (h41 : M.1 155 19 = 0) (h42 : M.1 147 20 = 0) (h43 : M.1 155 20 = 0) (h44 : M.1 147 21 = 0) (h45 : M.1 155 21 = 0) (h46 : M.1 147 22 = 0) (h47 : M.1 155 22 = 0) (h48 : M.1 147 23 = 0) (h49 : M.1 155 23 = 0) (h50 : M.1 147 24 = 0) (h51 : M.1 155 24 = 0) (h52 : M.1 155 25 = 0) (h53 : M.1 147 26 = 0) (h54 : M.1 155 26 = 0) (h55 : M.1 147 27 = 0) (h56 : M.1 155 27 = 0) : Ci l D B cy yX12_grow cX12_grow 4 (some .boolean) 1 24 [.ref (B + 146), .int 1, .int 1] M (fun r M1 => r = 1 ∧ M1 = (st (st (st (st M 146 20 1) 147 25 1) 147 26 1) 147 27 1)) := by
  refine s_any (by decide) (Nat.le_of_ble_eq_true rfl) ?_
  intro p e s m below meth c ls F hr hlocks w hl
  have F : CallFix p m c cX12_grow 4 s _ TB RX12 := F
  have hx := F.1
  have hb := F.2.1
  have hl : lv_has ls 4 [(0, .ref (B + 146)), (1, .int 1), (2, .int 1)] := hl
  refine lv_aload_n hx hb dX12_grow_0 rfl (lv_at hl 0 rfl) ?_
  refine f_12_1 F w (a := 146) rfl tb_126 dX12_grow_1 ?_
  refine lv_bipush (v := 25) hx hb dX12_grow_4 (by decide) ?_
  refine g_iald F w (a := 147) rfl (j := 25) ⟨by decide, by decide⟩ (by decide) dX12_grow_6 ?_
  refine r_val (v := 0) (h0) ?_
  refine lv_istore_n (lv' := [(3, .int 0), (0, .ref (B + 146)), (1, .int 1), (2, .int 1)]) hx hb dX12_grow_7 rfl hl (by decide) rfl (fun ls hl => ?_)
  refine lv_iload_n hx hb dX12_grow_8 rfl (lv_at hl 0 rfl) ?_
  refine lv_bipush (v := 12) hx hb dX12_grow_9 (by decide) ?_
  refine lv_icmp_ne (tgt := 16) hx hb dX12_grow_11 (by decide) (fun _ => ?_) (fun c1 => absurd c1 (by decide))
  refine lv_aload_n hx hb dX12_grow_16 rfl (lv_at hl 1 rfl) ?_
  refine x_Vv F w (As := []) (rest := []) (a := 146) (by decide) (sh_12 rfl _ _) rfl (c_X12_keeps_124 (h1) (h2) (h3) (h4) (h5) (h6) (h7) (h8) (h9) (h10) (h11) (h12) (h13) (h14) (h15) (h16) (h17) (h18) (h19) (h20) (h21) (h22) (h23) (h24) (h25) (h26) (h27) (h28) (h29) (h30) (h31) (h32) (h33) (h34) (h35) (h36) (h37) (h38) (h39) (h40) (h41) (h42) (h43) (h44) (h45) (h46) (h47) (h48) (h49) (h50) (h51) (h0) (h52) (h53) (h54) (h55) (h56)) gv_X12_242 hv_X12_keeps ⟨Nat.le_of_ble_eq_true rfl, Nat.le_of_ble_eq_true rfl⟩ hl.1 rfl (Nat.le_of_ble_eq_true rfl) ⟨Nat.zero_le _, Nat.zero_le _⟩ dX12_grow_17 (fun H locs w => ?_)
  refine lv_aload_n hx hb dX12_grow_20 rfl (lv_at hl 1 rfl) ?_
  refine f_12_1 F w (a := 146) rfl tb_126 dX12_grow_21 ?_
  refine lv_bipush (v := 25) hx hb dX12_grow_24 (by decide) ?_
  refine lv_dup2_11 hx hb dX12_grow_26 rfl rfl ?_
  refine g_iald F w (a := 147) rfl (j := 25) ⟨by decide, by decide⟩ (by decide) dX12_grow_27 ?_
  refine r_val (v := 0) ((st_ne (by decide)).trans h0) ?_
  refine lv_iconst (v := 1) hx hb dX12_grow_28 (by decide) ?_
  refine lv_iadd hx hb dX12_grow_29 ?_
  refine r_val (v := 1) (by decide) ?_
  refine g_iast F w (a := 147) rfl (j := 25) ⟨by decide, by decide⟩ (by decide) dX12_grow_30 (fun H locs w => ?_)
  refine lv_aload_n hx hb dX12_grow_31 rfl (lv_at hl 1 rfl) ?_
  refine lv_iload_n hx hb dX12_grow_32 rfl (lv_at hl 0 rfl) ?_
  refine lv_iload_n hx hb dX12_grow_33 rfl (lv_at hl 2 rfl) ?_
  refine lv_iload_n hx hb dX12_grow_34 rfl (lv_at hl 3 rfl) ?_
  refine x_Vv F w (As := [.int 0, .int 1, .int 1]) (rest := []) (a := 146) (by decide) (sh_12 rfl _ _) rfl (c_X12_marks_171 ((st_ne (by decide)).trans ((st_ne (by decide)).trans h53)) ((st_ne (by decide)).trans ((st_ne (by decide)).trans h55))) gv_X12_245 hv_X12_marks ⟨Nat.le_of_ble_eq_true rfl, Nat.le_of_ble_eq_true rfl⟩ hl.1 rfl (Nat.le_of_ble_eq_true rfl) ⟨Nat.zero_le _, Nat.zero_le _⟩ dX12_grow_35 (fun H locs w => ?_)
  refine lv_iconst (v := 1) hx hb dX12_grow_38 (by decide) ?_
  exact e_z F w hr hlocks (by decide) ⟨rfl, rfl⟩ dX12_grow_39
set_option maxRecDepth 8000 in
theorem la_9_25 {p : Program} {l : Launch} {e : Env} {s : State} {m : MethodId} {below : List Frame} {meth : Method} {c : Code} {D : va_G} {B b : Nat} {cy : Nat → ClassId} {H : Heap} {locs : List Loc} {ls : Array Slot} {xs : Nat → Int32} {Q : State → Prop} (F : CallFix p m c code 4 s #[Value.ref b] TB RL) (hX : va_X b 6 xs s s.heap) (hbl : b < s.heap.size) (hbA : ¬ B ≤ b) (w : Wd D B cy s s.heap M0 H locs) (hl : lv_has ls 4 [(3, .int 0), (2, .ref (B + 146)), (1, .ref (B + 0)), (0, .ref b)]) (h0 : ¬ (xs 1) = 0) (h1 : ¬ (xs 2) = 0) (kk : ∀ (M1 : Mem) (H1 : Heap) (locs1 : List Loc), Wd D B cy s s.heap M1 H1 locs1 → W p l e room_1 s m #[Value.ref b] below meth c H1 locs1 159 13107 Q (F0 m 1065 ls [])) : W p l e room_1 s m #[Value.ref b] below meth c H locs 159 13107 Q (F0 m 431 ls []) := by
  have hx := F.1
  have hb := F.2.1
  refine lv_aload_n hx hb dL_law_431 rfl (lv_at hl 2 rfl) ?_
  refine lv_aload_n hx hb dL_law_432 rfl (lv_at hl 3 rfl) ?_
  refine lv_iload_n hx hb dL_law_433 rfl (lv_at hl 0 rfl) ?_
  refine lv_iconst (v := 1) hx hb dL_law_434 (by decide) ?_
  refine lv_iadd hx hb dL_law_435 ?_
  refine r_val (v := 1) (by decide) ?_
  refine va_sld hx hb hX hbl hbA w.2.2.1 (vpi (by decide) (by decide)) dL_law_436 ?_
  refine r_val (v := xs 1) (congrArg xs (show (1 : Int32).toNatClampNeg = 1 by decide)) ?_
  refine lv_if_eq (tgt := 444) hx hb dL_law_437 (by decide) (fun c1 => absurd c1 h0) (fun _ => ?_)
  refine lv_iconst (v := 1) hx hb dL_law_440 (by decide) ?_
  refine lv_goto (tgt := 445) hx hb dL_law_441 (by decide) ?_
  refine lv_aload_n hx hb dL_law_445 rfl (lv_at hl 3 rfl) ?_
  refine lv_iload_n hx hb dL_law_446 rfl (lv_at hl 0 rfl) ?_
  refine lv_iconst (v := 2) hx hb dL_law_447 (by decide) ?_
  refine lv_iadd hx hb dL_law_448 ?_
  refine r_val (v := 2) (by decide) ?_
  refine va_sld hx hb hX hbl hbA w.2.2.1 (vpi (by decide) (by decide)) dL_law_449 ?_
  refine r_val (v := xs 2) (congrArg xs (show (2 : Int32).toNatClampNeg = 2 by decide)) ?_
  refine lv_if_eq (tgt := 457) hx hb dL_law_450 (by decide) (fun c1 => absurd c1 h1) (fun _ => ?_)
  refine lv_iconst (v := 1) hx hb dL_law_453 (by decide) ?_
  refine lv_goto (tgt := 458) hx hb dL_law_454 (by decide) ?_
  refine x_Vi F w (As := [.int 1, .int 1]) (rest := []) (a := 0) (by decide) (sh_11 rfl _ _) rfl (c_X11_grow_170 (rfl) (rfl) (rfl) (rfl) (rfl) (rfl) (rfl) (rfl) (rfl) (fun k hk => ((fun k hk => rfl) k hk)) (fun k hk => ((fun k hk => rfl) k hk)) (fun k hk => ((fun k hk => rfl) k hk)) (fun k hk => ((fun k hk => rfl) k hk)) (rfl) (rfl) (rfl) (rfl)) gv_L_55 hv_X11_grow ⟨Nat.le_of_ble_eq_true rfl, Nat.le_of_ble_eq_true rfl⟩ hl.1 rfl (Nat.le_of_ble_eq_true rfl) ⟨Nat.le_of_ble_eq_true rfl, Nat.le_of_ble_eq_true rfl⟩ dL_law_458 (fun H locs w => ?_)
  refine lv_aload_n hx hb dL_law_461 rfl (lv_at hl 1 rfl) ?_
  refine lv_aload_n hx hb dL_law_462 rfl (lv_at hl 3 rfl) ?_
  refine lv_iload_n hx hb dL_law_463 rfl (lv_at hl 0 rfl) ?_
  refine lv_iconst (v := 1) hx hb dL_law_464 (by decide) ?_
  refine lv_iadd hx hb dL_law_465 ?_
  refine r_val (v := 1) (by decide) ?_
  refine va_sld hx hb hX hbl hbA w.2.2.1 (vpi (by decide) (by decide)) dL_law_466 ?_
  refine r_val (v := xs 1) (congrArg xs (show (1 : Int32).toNatClampNeg = 1 by decide)) ?_
  refine lv_if_eq (tgt := 474) hx hb dL_law_467 (by decide) (fun c1 => absurd c1 h0) (fun _ => ?_)
  refine lv_iconst (v := 1) hx hb dL_law_470 (by decide) ?_
  refine lv_goto (tgt := 475) hx hb dL_law_471 (by decide) ?_
  refine lv_aload_n hx hb dL_law_475 rfl (lv_at hl 3 rfl) ?_
  refine lv_iload_n hx hb dL_law_476 rfl (lv_at hl 0 rfl) ?_
  refine lv_iconst (v := 2) hx hb dL_law_477 (by decide) ?_
  refine lv_iadd hx hb dL_law_478 ?_
  refine r_val (v := 2) (by decide) ?_
  refine va_sld hx hb hX hbl hbA w.2.2.1 (vpi (by decide) (by decide)) dL_law_479 ?_
  refine r_val (v := xs 2) (congrArg xs (show (2 : Int32).toNatClampNeg = 2 by decide)) ?_
  refine lv_if_eq (tgt := 487) hx hb dL_law_480 (by decide) (fun c1 => absurd c1 h1) (fun _ => ?_)
  refine lv_iconst (v := 1) hx hb dL_law_483 (by decide) ?_
  refine lv_goto (tgt := 488) hx hb dL_law_484 (by decide) ?_
  refine x_Vi F w (As := [.int 1, .int 1]) (rest := [.int 1]) (a := 146) (by decide) (sh_12 rfl _ _) rfl (c_X12_grow_172 ((st_ne (by decide)).trans ((st_ne (by decide)).trans ((st_ne (by decide)).trans ((st_ne (by decide)).trans ((st_ne (by decide)).trans rfl))))) ((st_ne (by decide)).trans ((st_ne (by decide)).trans ((st_ne (by decide)).trans ((st_ne (by decide)).trans ((st_ne (by decide)).trans rfl))))) ((st_ne (by decide)).trans ((st_ne (by decide)).trans ((st_ne (by decide)).trans ((st_ne (by decide)).trans ((st_ne (by decide)).trans rfl))))) ((st_ne (by decide)).trans ((st_ne (by decide)).trans ((st_ne (by decide)).trans ((st_ne (by decide)).trans ((st_ne (by decide)).trans rfl))))) ((st_ne (by decide)).trans ((st_ne (by decide)).trans ((st_ne (by decide)).trans ((st_ne (by decide)).trans ((st_ne (by decide)).trans rfl))))) ((st_ne (by decide)).trans ((st_ne (by decide)).trans ((st_ne (by decide)).trans ((st_ne (by decide)).trans ((st_ne (by decide)).trans rfl))))) ((st_ne (by decide)).trans ((st_ne (by decide)).trans ((st_ne (by decide)).trans ((st_ne (by decide)).trans ((st_ne (by decide)).trans rfl))))) ((st_ne (by decide)).trans ((st_ne (by decide)).trans ((st_ne (by decide)).trans ((st_ne (by decide)).trans ((st_ne (by decide)).trans rfl))))) ((st_ne (by decide)).trans ((st_ne (by decide)).trans ((st_ne (by decide)).trans ((st_ne (by decide)).trans ((st_ne (by decide)).trans rfl))))) ((st_ne (by decide)).trans ((st_ne (by decide)).trans ((st_ne (by decide)).trans ((st_ne (by decide)).trans ((st_ne (by decide)).trans rfl))))) ((st_ne (by decide)).trans ((st_ne (by decide)).trans ((st_ne (by decide)).trans ((st_ne (by decide)).trans ((st_ne (by decide)).trans rfl))))) ((st_ne (by decide)).trans ((st_ne (by decide)).trans ((st_ne (by decide)).trans ((st_ne (by decide)).trans ((st_ne (by decide)).trans rfl))))) ((st_ne (by decide)).trans ((st_ne (by decide)).trans ((st_ne (by decide)).trans ((st_ne (by decide)).trans ((st_ne (by decide)).trans rfl))))) ((st_ne (by decide)).trans ((st_ne (by decide)).trans ((st_ne (by decide)).trans ((st_ne (by decide)).trans ((st_ne (by decide)).trans rfl))))) ((st_ne (by decide)).trans ((st_ne (by decide)).trans ((st_ne (by decide)).trans ((st_ne (by decide)).trans ((st_ne (by decide)).trans rfl))))) ((st_ne (by decide)).trans ((st_ne (by decide)).trans ((st_ne (by decide)).trans ((st_ne (by decide)).trans ((st_ne (by decide)).trans rfl))))) ((st_ne (by decide)).trans ((st_ne (by decide)).trans ((st_ne (by decide)).trans ((st_ne (by decide)).trans ((st_ne (by decide)).trans rfl))))) ((st_ne (by decide)).trans ((st_ne (by decide)).trans ((st_ne (by decide)).trans ((st_ne (by decide)).trans ((st_ne (by decide)).trans rfl))))) ((st_ne (by decide)).trans ((st_ne (by decide)).trans ((st_ne (by decide)).trans ((st_ne (by decide)).trans ((st_ne (by decide)).trans rfl))))) ((st_ne (by decide)).trans ((st_ne (by decide)).trans ((st_ne (by decide)).trans ((st_ne (by decide)).trans ((st_ne (by decide)).trans rfl))))) ((st_ne (by decide)).trans ((st_ne (by decide)).trans ((st_ne (by decide)).trans ((st_ne (by decide)).trans ((st_ne (by decide)).trans rfl))))) ((st_ne (by decide)).trans ((st_ne (by decide)).trans ((st_ne (by decide)).trans ((st_ne (by decide)).trans ((st_ne (by decide)).trans rfl))))) ((st_ne (by decide)).trans ((st_ne (by decide)).trans ((st_ne (by decide)).trans ((st_ne (by decide)).trans ((st_ne (by decide)).trans rfl))))) ((st_ne (by decide)).trans ((st_ne (by decide)).trans ((st_ne (by decide)).trans ((st_ne (by decide)).trans ((st_ne (by decide)).trans rfl))))) ((st_ne (by decide)).trans ((st_ne (by decide)).trans ((st_ne (by decide)).trans ((st_ne (by decide)).trans ((st_ne (by decide)).trans rfl))))) ((st_ne (by decide)).trans ((st_ne (by decide)).trans ((st_ne (by decide)).trans ((st_ne (by decide)).trans ((st_ne (by decide)).trans rfl))))) ((st_ne (by decide)).trans ((st_ne (by decide)).trans ((st_ne (by decide)).trans ((st_ne (by decide)).trans ((st_ne (by decide)).trans rfl))))) ((st_ne (by decide)).trans ((st_ne (by decide)).trans ((st_ne (by decide)).trans ((st_ne (by decide)).trans ((st_ne (by decide)).trans rfl))))) ((st_ne (by decide)).trans ((st_ne (by decide)).trans ((st_ne (by decide)).trans ((st_ne (by decide)).trans ((st_ne (by decide)).trans rfl))))) ((st_ne (by decide)).trans ((st_ne (by decide)).trans ((st_ne (by decide)).trans ((st_ne (by decide)).trans ((st_ne (by decide)).trans rfl))))) ((st_ne (by decide)).trans ((st_ne (by decide)).trans ((st_ne (by decide)).trans ((st_ne (by decide)).trans ((st_ne (by decide)).trans rfl))))) ((st_ne (by decide)).trans ((st_ne (by decide)).trans ((st_ne (by decide)).trans ((st_ne (by decide)).trans ((st_ne (by decide)).trans rfl))))) ((st_ne (by decide)).trans ((st_ne (by decide)).trans ((st_ne (by decide)).trans ((st_ne (by decide)).trans ((st_ne (by decide)).trans rfl))))) ((st_ne (by decide)).trans ((st_ne (by decide)).trans ((st_ne (by decide)).trans ((st_ne (by decide)).trans ((st_ne (by decide)).trans rfl))))) ((st_ne (by decide)).trans ((st_ne (by decide)).trans ((st_ne (by decide)).trans ((st_ne (by decide)).trans ((st_ne (by decide)).trans rfl))))) ((st_ne (by decide)).trans ((st_ne (by decide)).trans ((st_ne (by decide)).trans ((st_ne (by decide)).trans ((st_ne (by decide)).trans rfl))))) ((st_ne (by decide)).trans ((st_ne (by decide)).trans ((st_ne (by decide)).trans ((st_ne (by decide)).trans ((st_ne (by decide)).trans rfl))))) ((st_ne (by decide)).trans ((st_ne (by decide)).trans ((st_ne (by decide)).trans ((st_ne (by decide)).trans ((st_ne (by decide)).trans rfl))))) ((st_ne (by decide)).trans ((st_ne (by decide)).trans ((st_ne (by decide)).trans ((st_ne (by decide)).trans ((st_ne (by decide)).trans rfl))))) ((st_ne (by decide)).trans ((st_ne (by decide)).trans ((st_ne (by decide)).trans ((st_ne (by decide)).trans ((st_ne (by decide)).trans rfl))))) ((st_ne (by decide)).trans ((st_ne (by decide)).trans ((st_ne (by decide)).trans ((st_ne (by decide)).trans ((st_ne (by decide)).trans rfl))))) ((st_ne (by decide)).trans ((st_ne (by decide)).trans ((st_ne (by decide)).trans ((st_ne (by decide)).trans ((st_ne (by decide)).trans rfl))))) ((st_ne (by decide)).trans ((st_ne (by decide)).trans ((st_ne (by decide)).trans ((st_ne (by decide)).trans ((st_ne (by decide)).trans rfl))))) ((st_ne (by decide)).trans ((st_ne (by decide)).trans ((st_ne (by decide)).trans ((st_ne (by decide)).trans ((st_ne (by decide)).trans rfl))))) ((st_ne (by decide)).trans ((st_ne (by decide)).trans ((st_ne (by decide)).trans ((st_ne (by decide)).trans ((st_ne (by decide)).trans rfl))))) ((st_ne (by decide)).trans ((st_ne (by decide)).trans ((st_ne (by decide)).trans ((st_ne (by decide)).trans ((st_ne (by decide)).trans rfl))))) ((st_ne (by decide)).trans ((st_ne (by decide)).trans ((st_ne (by decide)).trans ((st_ne (by decide)).trans ((st_ne (by decide)).trans rfl))))) ((st_ne (by decide)).trans ((st_ne (by decide)).trans ((st_ne (by decide)).trans ((st_ne (by decide)).trans ((st_ne (by decide)).trans rfl))))) ((st_ne (by decide)).trans ((st_ne (by decide)).trans ((st_ne (by decide)).trans ((st_ne (by decide)).trans ((st_ne (by decide)).trans rfl))))) ((st_ne (by decide)).trans ((st_ne (by decide)).trans ((st_ne (by decide)).trans ((st_ne (by decide)).trans ((st_ne (by decide)).trans rfl))))) ((st_ne (by decide)).trans ((st_ne (by decide)).trans ((st_ne (by decide)).trans ((st_ne (by decide)).trans ((st_ne (by decide)).trans rfl))))) ((st_ne (by decide)).trans ((st_ne (by decide)).trans ((st_ne (by decide)).trans ((st_ne (by decide)).trans ((st_ne (by decide)).trans rfl))))) ((st_ne (by decide)).trans ((st_ne (by decide)).trans ((st_ne (by decide)).trans ((st_ne (by decide)).trans ((st_ne (by decide)).trans rfl))))) ((st_ne (by decide)).trans ((st_ne (by decide)).trans ((st_ne (by decide)).trans ((st_ne (by decide)).trans ((st_ne (by decide)).trans rfl))))) ((st_ne (by decide)).trans ((st_ne (by decide)).trans ((st_ne (by decide)).trans ((st_ne (by decide)).trans ((st_ne (by decide)).trans rfl))))) ((st_ne (by decide)).trans ((st_ne (by decide)).trans ((st_ne (by decide)).trans ((st_ne (by decide)).trans ((st_ne (by decide)).trans rfl))))) ((st_ne (by decide)).trans ((st_ne (by decide)).trans ((st_ne (by decide)).trans ((st_ne (by decide)).trans ((st_ne (by decide)).trans rfl)))))) gv_L_59 hv_X12_grow ⟨Nat.le_of_ble_eq_true rfl, Nat.le_of_ble_eq_true rfl⟩ hl.1 rfl (Nat.le_of_ble_eq_true rfl) ⟨Nat.le_of_ble_eq_true rfl, Nat.le_of_ble_eq_true rfl⟩ dL_law_488 (fun H locs w => ?_)
  refine lv_icmp_eq (tgt := 1065) hx hb dL_law_491 (by decide) (fun _ => ?_) (fun c1 => absurd c1 (by decide))
  exact kk _ _ _ w
set_option maxRecDepth 8000 in
theorem lc_9 {p : Program} {l : Launch} {e : Env} {s : State} {m : MethodId} {below : List Frame} {meth : Method} {c : Code} {D : va_G} {B b : Nat} {cy : Nat → ClassId} {H : Heap} {locs : List Loc} {ls : Array Slot} {xs : Nat → Int32} {Q : State → Prop} (F : CallFix p m c code 4 s #[Value.ref b] TB RL) (hX : va_X b 6 xs s s.heap) (hbl : b < s.heap.size) (hbA : ¬ B ≤ b) (w : Wd D B cy s s.heap M0 H locs) (hl : lv_has ls 4 [(3, .int 0), (2, .ref (B + 146)), (1, .ref (B + 0)), (0, .ref b)]) (kk : ∀ (M1 : Mem) (H1 : Heap) (locs1 : List Loc), Wd D B cy s s.heap M1 H1 locs1 → W p l e room_1 s m #[Value.ref b] below meth c H1 locs1 159 13107 Q (F0 m 1065 ls [])) : W p l e room_1 s m #[Value.ref b] below meth c H locs 159 13107 Q (F0 m 431 ls []) := by
  rcases (show (xs 1).toInt = 0 ∨ (xs 1).toInt ≠ 0 by omega) with h1 | h1
  · have x1 : xs 1 = 0 := Int32.toInt_inj.mp (h1.trans (by decide))
    rcases (show (xs 2).toInt = 0 ∨ (xs 2).toInt ≠ 0 by omega) with h2 | h2
    · have x2 : xs 2 = 0 := Int32.toInt_inj.mp (h2.trans (by decide))
      exact la_9_22 F hX hbl hbA w hl x1 x2 kk
    · skip
      exact la_9_23 F hX hbl hbA w hl x1 (fun h => absurd h2 (by rw [h]; decide)) kk
  · skip
    rcases (show (xs 2).toInt = 0 ∨ (xs 2).toInt ≠ 0 by omega) with h2 | h2
    · have x2 : xs 2 = 0 := Int32.toInt_inj.mp (h2.trans (by decide))
      exact la_9_24 F hX hbl hbA w hl x2 (fun h => absurd h1 (by rw [h]; decide)) kk
    · skip
      exact la_9_25 F hX hbl hbA w hl (fun h => absurd h1 (by rw [h]; decide)) (fun h => absurd h2 (by rw [h]; decide)) kk
theorem dL_law_496 : decode cL_law 496 = .ok (.aload_n 1, 1) := by decide +kernel
theorem dL_law_497 : decode cL_law 497 = .ok (.invokevirtual 60, 3) := by decide +kernel
theorem dX11_shrink_0 : decode cX11_shrink 0 = .ok (.aload_n 0, 1) := by decide +kernel
theorem dX11_shrink_1 : decode cX11_shrink 1 = .ok (.getfield 43, 3) := by decide +kernel
theorem dX11_shrink_4 : decode cX11_shrink 4 = .ok (.getfield 150, 3) := by decide +kernel
theorem dX11_shrink_7 : decode cX11_shrink 7 = .ok (.ifCond .gt 5, 3) := by decide +kernel
theorem dX11_shrink_10 : decode cX11_shrink 10 = .ok (.iconst 0, 1) := by decide +kernel
theorem dX11_shrink_11 : decode cX11_shrink 11 = .ok (.ireturn, 1) := by decide +kernel
set_option maxRecDepth 4000 in
theorem c_X11_shrink_173 {l : Launch} {D : va_G} {B : Nat} {cy : Nat → ClassId} {M : Mem} (h0 : M.1 44 1 = 0) : Ci l D B cy yX11_shrink cX11_shrink 1 (some .boolean) 0 0 [.ref (B + 0)] M (fun r M1 => r = 0 ∧ M1 = M) := by
  refine s_any (by decide) (Nat.le_of_ble_eq_true rfl) ?_
  intro p e s m below meth c ls F hr hlocks w hl
  have F : CallFix p m c cX11_shrink 1 s _ TB RX11 := F
  have hx := F.1
  have hb := F.2.1
  have hl : lv_has ls 1 [(0, .ref (B + 0))] := hl
  refine lv_aload_n hx hb dX11_shrink_0 rfl (lv_at hl 0 rfl) ?_
  refine f_11_4 F w (a := 0) rfl tb_75 dX11_shrink_1 ?_
  refine f_9_1 F w (a := 44) rfl tb_302 dX11_shrink_4 ?_
  refine r_val (v := 0) (h0) ?_
  refine lv_if_gt (tgt := 12) hx hb dX11_shrink_7 (by decide) (fun c1 => absurd c1 (by decide)) (fun _ => ?_)
  refine lv_iconst (v := 0) hx hb dX11_shrink_10 (by decide) ?_
  exact e_z F w hr hlocks (by decide) ⟨rfl, rfl⟩ dX11_shrink_11
theorem tk_X11_shrink : Cond.code yX11_shrink cX11_shrink 1 (some .boolean) ∈ TB := tbm (tc3 (List.mem_of_getElem? (i := 185) rfl)) rfl
theorem gc_X11_shrink : GoodIn TB (cw yX11_shrink cX11_shrink 1 (some .boolean)) := goodIn_c2 tk_X11_shrink
theorem tb_318 : Cond.methodLink "ToneLinesLaw" 60 yX11_shrink ∈ TB := tbm (tc3 (List.mem_of_getElem? (i := 182) rfl)) rfl
theorem tb_319 : Cond.instanceMethod yX11_shrink ∈ TB := tbm (tc3 (List.mem_of_getElem? (i := 183) rfl)) rfl
theorem tb_320 : Cond.selects "ToneLines" yX11_shrink yX11_shrink ∈ TB := tbm (tc3 (List.mem_of_getElem? (i := 184) rfl)) rfl
theorem gv_L_60 : GoodIn TB (wsV RL 60 RX11 yX11_shrink (cw yX11_shrink cX11_shrink 1 (some .boolean))) := goodIn_4 tb_318 tb_319 tb_320 tb_145 gc_X11_shrink
theorem hv_X11_shrink : yX11_shrink.cls = RX11 ∧ yX11_shrink.cls ≠ "java/lang/invoke/MethodHandle" ∧ yX11_shrink.cls ≠ "java/lang/invoke/VarHandle" ∧ (parseMethodDescriptor yX11_shrink.desc).map (fun d => d.parameters.length) = some 0 := by decide +kernel
theorem dL_law_500 : decode cL_law 500 = .ok (.aload_n 2, 1) := by decide +kernel
theorem dL_law_501 : decode cL_law 501 = .ok (.invokevirtual 64, 3) := by decide +kernel
theorem dX12_shrink_0 : decode cX12_shrink 0 = .ok (.aload_n 0, 1) := by decide +kernel
theorem dX12_shrink_1 : decode cX12_shrink 1 = .ok (.getfield 13, 3) := by decide +kernel
theorem dX12_shrink_4 : decode cX12_shrink 4 = .ok (.bipush 25, 2) := by decide +kernel
theorem dX12_shrink_6 : decode cX12_shrink 6 = .ok (.iaload, 1) := by decide +kernel
theorem dX12_shrink_7 : decode cX12_shrink 7 = .ok (.iconst 1, 1) := by decide +kernel
theorem dX12_shrink_8 : decode cX12_shrink 8 = .ok (.isub, 1) := by decide +kernel
theorem dX12_shrink_9 : decode cX12_shrink 9 = .ok (.istore_n 1, 1) := by decide +kernel
theorem dX12_shrink_10 : decode cX12_shrink 10 = .ok (.iload_n 1, 1) := by decide +kernel
theorem dX12_shrink_11 : decode cX12_shrink 11 = .ok (.ifCond .ge 5, 3) := by decide +kernel
theorem dX12_shrink_14 : decode cX12_shrink 14 = .ok (.iconst 0, 1) := by decide +kernel
theorem dX12_shrink_15 : decode cX12_shrink 15 = .ok (.ireturn, 1) := by decide +kernel
set_option maxRecDepth 4000 in
theorem c_X12_shrink_174 {l : Launch} {D : va_G} {B : Nat} {cy : Nat → ClassId} {M : Mem} (h0 : M.1 147 25 = 0) : Ci l D B cy yX12_shrink cX12_shrink 3 (some .boolean) 0 0 [.ref (B + 146)] M (fun r M1 => r = 0 ∧ M1 = M) := by
  refine s_any (by decide) (Nat.le_of_ble_eq_true rfl) ?_
  intro p e s m below meth c ls F hr hlocks w hl
  have F : CallFix p m c cX12_shrink 3 s _ TB RX12 := F
  have hx := F.1
  have hb := F.2.1
  have hl : lv_has ls 3 [(0, .ref (B + 146))] := hl
  refine lv_aload_n hx hb dX12_shrink_0 rfl (lv_at hl 0 rfl) ?_
  refine f_12_1 F w (a := 146) rfl tb_126 dX12_shrink_1 ?_
  refine lv_bipush (v := 25) hx hb dX12_shrink_4 (by decide) ?_
  refine g_iald F w (a := 147) rfl (j := 25) ⟨by decide, by decide⟩ (by decide) dX12_shrink_6 ?_
  refine r_val (v := 0) (h0) ?_
  refine lv_iconst (v := 1) hx hb dX12_shrink_7 (by decide) ?_
  refine lv_isub hx hb dX12_shrink_8 ?_
  refine r_val (v := (-1)) (by decide) ?_
  refine lv_istore_n (lv' := [(1, .int (-1)), (0, .ref (B + 146))]) hx hb dX12_shrink_9 rfl hl (by decide) rfl (fun ls hl => ?_)
  refine lv_iload_n hx hb dX12_shrink_10 rfl (lv_at hl 0 rfl) ?_
  refine lv_if_ge (tgt := 16) hx hb dX12_shrink_11 (by decide) (fun c1 => absurd c1 (by decide)) (fun _ => ?_)
  refine lv_iconst (v := 0) hx hb dX12_shrink_14 (by decide) ?_
  exact e_z F w hr hlocks (by decide) ⟨rfl, rfl⟩ dX12_shrink_15
theorem tk_X12_shrink : Cond.code yX12_shrink cX12_shrink 3 (some .boolean) ∈ TB := tbm (tc6 (List.mem_of_getElem? (i := 40) rfl)) rfl
theorem gc_X12_shrink : GoodIn TB (cw yX12_shrink cX12_shrink 3 (some .boolean)) := goodIn_c2 tk_X12_shrink
theorem tb_321 : Cond.methodLink "ToneLinesLaw" 64 yX12_shrink ∈ TB := tbm (tc6 (List.mem_of_getElem? (i := 37) rfl)) rfl
theorem tb_322 : Cond.instanceMethod yX12_shrink ∈ TB := tbm (tc6 (List.mem_of_getElem? (i := 38) rfl)) rfl
theorem tb_323 : Cond.selects "ToneLinesModel" yX12_shrink yX12_shrink ∈ TB := tbm (tc6 (List.mem_of_getElem? (i := 39) rfl)) rfl
theorem gv_L_64 : GoodIn TB (wsV RL 64 RX12 yX12_shrink (cw yX12_shrink cX12_shrink 3 (some .boolean))) := goodIn_4 tb_321 tb_322 tb_323 tb_150 gc_X12_shrink
theorem hv_X12_shrink : yX12_shrink.cls = RX12 ∧ yX12_shrink.cls ≠ "java/lang/invoke/MethodHandle" ∧ yX12_shrink.cls ≠ "java/lang/invoke/VarHandle" ∧ (parseMethodDescriptor yX12_shrink.desc).map (fun d => d.parameters.length) = some 0 := by decide +kernel
theorem dL_law_504 : decode cL_law 504 = .ok (.if_icmp .eq 561, 3) := by decide +kernel
set_option maxRecDepth 8000 in
theorem la_10_26 {p : Program} {l : Launch} {e : Env} {s : State} {m : MethodId} {below : List Frame} {meth : Method} {c : Code} {D : va_G} {B b : Nat} {cy : Nat → ClassId} {H : Heap} {locs : List Loc} {ls : Array Slot} {xs : Nat → Int32} {Q : State → Prop} (F : CallFix p m c code 4 s #[Value.ref b] TB RL) (hX : va_X b 6 xs s s.heap) (hbl : b < s.heap.size) (hbA : ¬ B ≤ b) (w : Wd D B cy s s.heap M0 H locs) (hl : lv_has ls 4 [(3, .int 0), (2, .ref (B + 146)), (1, .ref (B + 0)), (0, .ref b)]) (kk : ∀ (M1 : Mem) (H1 : Heap) (locs1 : List Loc), Wd D B cy s s.heap M1 H1 locs1 → W p l e room_1 s m #[Value.ref b] below meth c H1 locs1 159 13107 Q (F0 m 1065 ls [])) : W p l e room_1 s m #[Value.ref b] below meth c H locs 159 13107 Q (F0 m 496 ls []) := by
  have hx := F.1
  have hb := F.2.1
  refine lv_aload_n hx hb dL_law_496 rfl (lv_at hl 2 rfl) ?_
  refine x_Vi F w (As := []) (rest := []) (a := 0) (by decide) (sh_11 rfl _ _) rfl (c_X11_shrink_173 (rfl)) gv_L_60 hv_X11_shrink ⟨Nat.le_of_ble_eq_true rfl, Nat.le_of_ble_eq_true rfl⟩ hl.1 rfl (Nat.le_of_ble_eq_true rfl) ⟨Nat.le_of_ble_eq_true rfl, Nat.le_of_ble_eq_true rfl⟩ dL_law_497 (fun H locs w => ?_)
  refine lv_aload_n hx hb dL_law_500 rfl (lv_at hl 1 rfl) ?_
  refine x_Vi F w (As := []) (rest := [.int 0]) (a := 146) (by decide) (sh_12 rfl _ _) rfl (c_X12_shrink_174 (rfl)) gv_L_64 hv_X12_shrink ⟨Nat.le_of_ble_eq_true rfl, Nat.le_of_ble_eq_true rfl⟩ hl.1 rfl (Nat.le_of_ble_eq_true rfl) ⟨Nat.le_of_ble_eq_true rfl, Nat.le_of_ble_eq_true rfl⟩ dL_law_501 (fun H locs w => ?_)
  refine lv_icmp_eq (tgt := 1065) hx hb dL_law_504 (by decide) (fun _ => ?_) (fun c1 => absurd c1 (by decide))
  exact kk _ _ _ w
set_option maxRecDepth 8000 in
theorem lc_10 {p : Program} {l : Launch} {e : Env} {s : State} {m : MethodId} {below : List Frame} {meth : Method} {c : Code} {D : va_G} {B b : Nat} {cy : Nat → ClassId} {H : Heap} {locs : List Loc} {ls : Array Slot} {xs : Nat → Int32} {Q : State → Prop} (F : CallFix p m c code 4 s #[Value.ref b] TB RL) (hX : va_X b 6 xs s s.heap) (hbl : b < s.heap.size) (hbA : ¬ B ≤ b) (w : Wd D B cy s s.heap M0 H locs) (hl : lv_has ls 4 [(3, .int 0), (2, .ref (B + 146)), (1, .ref (B + 0)), (0, .ref b)]) (kk : ∀ (M1 : Mem) (H1 : Heap) (locs1 : List Loc), Wd D B cy s s.heap M1 H1 locs1 → W p l e room_1 s m #[Value.ref b] below meth c H1 locs1 159 13107 Q (F0 m 1065 ls [])) : W p l e room_1 s m #[Value.ref b] below meth c H locs 159 13107 Q (F0 m 496 ls []) := by
  exact la_10_26 F hX hbl hbA w hl  kk
theorem dL_law_509 : decode cL_law 509 = .ok (.aload_n 1, 1) := by decide +kernel
theorem dL_law_510 : decode cL_law 510 = .ok (.aload_n 0, 1) := by decide +kernel
theorem dL_law_511 : decode cL_law 511 = .ok (.iload_n 3, 1) := by decide +kernel
theorem dL_law_512 : decode cL_law 512 = .ok (.iconst 1, 1) := by decide +kernel
theorem dL_law_513 : decode cL_law 513 = .ok (.iadd, 1) := by decide +kernel
theorem dL_law_514 : decode cL_law 514 = .ok (.iaload, 1) := by decide +kernel
theorem dL_law_515 : decode cL_law 515 = .ok (.aload_n 0, 1) := by decide +kernel
theorem dL_law_516 : decode cL_law 516 = .ok (.iload_n 3, 1) := by decide +kernel
theorem dL_law_517 : decode cL_law 517 = .ok (.iconst 2, 1) := by decide +kernel
theorem dL_law_518 : decode cL_law 518 = .ok (.iadd, 1) := by decide +kernel
theorem dL_law_519 : decode cL_law 519 = .ok (.iaload, 1) := by decide +kernel
theorem dL_law_520 : decode cL_law 520 = .ok (.ifCond .eq 7, 3) := by decide +kernel
theorem dL_law_527 : decode cL_law 527 = .ok (.iconst 0, 1) := by decide +kernel
theorem dL_law_528 : decode cL_law 528 = .ok (.aload_n 0, 1) := by decide +kernel
theorem dL_law_529 : decode cL_law 529 = .ok (.iload_n 3, 1) := by decide +kernel
theorem dL_law_530 : decode cL_law 530 = .ok (.iconst 3, 1) := by decide +kernel
theorem dL_law_531 : decode cL_law 531 = .ok (.iadd, 1) := by decide +kernel
theorem dL_law_532 : decode cL_law 532 = .ok (.iaload, 1) := by decide +kernel
theorem dL_law_533 : decode cL_law 533 = .ok (.ifCond .eq 7, 3) := by decide +kernel
theorem dL_law_540 : decode cL_law 540 = .ok (.iconst 0, 1) := by decide +kernel
theorem dL_law_541 : decode cL_law 541 = .ok (.invokevirtual 65, 3) := by decide +kernel
theorem dX11_mark_0 : decode cX11_mark 0 = .ok (.aload_n 0, 1) := by decide +kernel
theorem dX11_mark_1 : decode cX11_mark 1 = .ok (.getfield 43, 3) := by decide +kernel
theorem dX11_mark_4 : decode cX11_mark 4 = .ok (.iload_n 1, 1) := by decide +kernel
theorem dX11_mark_5 : decode cX11_mark 5 = .ok (.invokevirtual 160, 3) := by decide +kernel
theorem dX9_hasSyllable_0 : decode cX9_hasSyllable 0 = .ok (.iload_n 1, 1) := by decide +kernel
theorem dX9_hasSyllable_1 : decode cX9_hasSyllable 1 = .ok (.ifCond .lt 15, 3) := by decide +kernel
theorem dX9_hasSyllable_16 : decode cX9_hasSyllable 16 = .ok (.iconst 0, 1) := by decide +kernel
theorem dX9_hasSyllable_17 : decode cX9_hasSyllable 17 = .ok (.ireturn, 1) := by decide +kernel
set_option maxRecDepth 4000 in
theorem c_X9_hasSyllable_175 {l : Launch} {D : va_G} {B : Nat} {cy : Nat → ClassId} {M : Mem} {p1 : Int32} (h0 : p1 < 0) : Ci l D B cy yX9_hasSyllable cX9_hasSyllable 2 (some .boolean) 0 0 [.ref (B + 44), .int p1] M (fun r M1 => r = 0 ∧ M1 = M) := by
  refine s_any (by decide) (Nat.le_of_ble_eq_true rfl) ?_
  intro p e s m below meth c ls F hr hlocks w hl
  have F : CallFix p m c cX9_hasSyllable 2 s _ TB RX9 := F
  have hx := F.1
  have hb := F.2.1
  have hl : lv_has ls 2 [(0, .ref (B + 44)), (1, .int p1)] := hl
  refine lv_iload_n hx hb dX9_hasSyllable_0 rfl (lv_at hl 1 rfl) ?_
  refine lv_if_lt (tgt := 16) hx hb dX9_hasSyllable_1 (by decide) (fun _ => ?_) (fun c1 => absurd h0 c1)
  refine lv_iconst (v := 0) hx hb dX9_hasSyllable_16 (by decide) ?_
  exact e_z F w hr hlocks (by decide) ⟨rfl, rfl⟩ dX9_hasSyllable_17
theorem tk_X9_hasSyllable : Cond.code yX9_hasSyllable cX9_hasSyllable 2 (some .boolean) ∈ TB := tbm (tc3 (List.mem_of_getElem? (i := 13) rfl)) rfl
theorem gc_X9_hasSyllable : GoodIn TB (cw yX9_hasSyllable cX9_hasSyllable 2 (some .boolean)) := goodIn_c2 tk_X9_hasSyllable
theorem tb_324 : Cond.methodLink "ToneLines" 160 yX9_hasSyllable ∈ TB := tbm (tc3 (List.mem_of_getElem? (i := 194) rfl)) rfl
theorem tb_325 : Cond.instanceMethod yX9_hasSyllable ∈ TB := tbm (tc3 (List.mem_of_getElem? (i := 11) rfl)) rfl
theorem tb_326 : Cond.selects "ToneLines$Word" yX9_hasSyllable yX9_hasSyllable ∈ TB := tbm (tc3 (List.mem_of_getElem? (i := 12) rfl)) rfl
theorem gv_X11_160 : GoodIn TB (wsV RX11 160 RX9 yX9_hasSyllable (cw yX9_hasSyllable cX9_hasSyllable 2 (some .boolean))) := goodIn_4 tb_324 tb_325 tb_326 tb_61 gc_X9_hasSyllable
theorem hv_X9_hasSyllable : yX9_hasSyllable.cls = RX9 ∧ yX9_hasSyllable.cls ≠ "java/lang/invoke/MethodHandle" ∧ yX9_hasSyllable.cls ≠ "java/lang/invoke/VarHandle" ∧ (parseMethodDescriptor yX9_hasSyllable.desc).map (fun d => d.parameters.length) = some 1 := by decide +kernel
theorem dX11_mark_8 : decode cX11_mark 8 = .ok (.ifCond .ne 5, 3) := by decide +kernel
theorem dX11_mark_11 : decode cX11_mark 11 = .ok (.iconst 0, 1) := by decide +kernel
theorem dX11_mark_12 : decode cX11_mark 12 = .ok (.ireturn, 1) := by decide +kernel
set_option maxRecDepth 4000 in
theorem c_X11_mark_176 {l : Launch} {D : va_G} {B : Nat} {cy : Nat → ClassId} {M : Mem} {p1 : Int32} (h0 : p1 < 0) : Ci l D B cy yX11_mark cX11_mark 4 (some .boolean) 1 21 [.ref (B + 0), .int p1, .int 0, .int 0] M (fun r M1 => r = 0 ∧ M1 = M) := by
  refine s_any (by decide) (Nat.le_of_ble_eq_true rfl) ?_
  intro p e s m below meth c ls F hr hlocks w hl
  have F : CallFix p m c cX11_mark 4 s _ TB RX11 := F
  have hx := F.1
  have hb := F.2.1
  have hl : lv_has ls 4 [(0, .ref (B + 0)), (1, .int p1), (2, .int 0), (3, .int 0)] := hl
  refine lv_aload_n hx hb dX11_mark_0 rfl (lv_at hl 0 rfl) ?_
  refine f_11_4 F w (a := 0) rfl tb_75 dX11_mark_1 ?_
  refine lv_iload_n hx hb dX11_mark_4 rfl (lv_at hl 1 rfl) ?_
  refine x_Vi F w (As := [.int p1]) (rest := []) (a := 44) (by decide) (sh_9 rfl _ _) rfl (c_X9_hasSyllable_175 h0) gv_X11_160 hv_X9_hasSyllable ⟨Nat.le_of_ble_eq_true rfl, Nat.le_of_ble_eq_true rfl⟩ hl.1 rfl (Nat.le_of_ble_eq_true rfl) ⟨Nat.zero_le _, Nat.zero_le _⟩ dX11_mark_5 (fun H locs w => ?_)
  refine lv_if_ne (tgt := 13) hx hb dX11_mark_8 (by decide) (fun c1 => absurd c1 (by decide)) (fun _ => ?_)
  refine lv_iconst (v := 0) hx hb dX11_mark_11 (by decide) ?_
  exact e_z F w hr hlocks (by decide) ⟨rfl, rfl⟩ dX11_mark_12
theorem tk_X11_mark : Cond.code yX11_mark cX11_mark 4 (some .boolean) ∈ TB := tbm (tc3 (List.mem_of_getElem? (i := 193) rfl)) rfl
theorem gc_X11_mark : GoodIn TB (cw yX11_mark cX11_mark 4 (some .boolean)) := goodIn_c2 tk_X11_mark
theorem tb_327 : Cond.methodLink "ToneLinesLaw" 65 yX11_mark ∈ TB := tbm (tc3 (List.mem_of_getElem? (i := 190) rfl)) rfl
theorem tb_328 : Cond.instanceMethod yX11_mark ∈ TB := tbm (tc3 (List.mem_of_getElem? (i := 191) rfl)) rfl
theorem tb_329 : Cond.selects "ToneLines" yX11_mark yX11_mark ∈ TB := tbm (tc3 (List.mem_of_getElem? (i := 192) rfl)) rfl
theorem gv_L_65 : GoodIn TB (wsV RL 65 RX11 yX11_mark (cw yX11_mark cX11_mark 4 (some .boolean))) := goodIn_4 tb_327 tb_328 tb_329 tb_145 gc_X11_mark
theorem hv_X11_mark : yX11_mark.cls = RX11 ∧ yX11_mark.cls ≠ "java/lang/invoke/MethodHandle" ∧ yX11_mark.cls ≠ "java/lang/invoke/VarHandle" ∧ (parseMethodDescriptor yX11_mark.desc).map (fun d => d.parameters.length) = some 3 := by decide +kernel
theorem dL_law_544 : decode cL_law 544 = .ok (.aload_n 2, 1) := by decide +kernel
theorem dL_law_545 : decode cL_law 545 = .ok (.aload_n 0, 1) := by decide +kernel
theorem dL_law_546 : decode cL_law 546 = .ok (.iload_n 3, 1) := by decide +kernel
theorem dL_law_547 : decode cL_law 547 = .ok (.iconst 1, 1) := by decide +kernel
theorem dL_law_548 : decode cL_law 548 = .ok (.iadd, 1) := by decide +kernel
theorem dL_law_549 : decode cL_law 549 = .ok (.iaload, 1) := by decide +kernel
theorem dL_law_550 : decode cL_law 550 = .ok (.aload_n 0, 1) := by decide +kernel
theorem dL_law_551 : decode cL_law 551 = .ok (.iload_n 3, 1) := by decide +kernel
theorem dL_law_552 : decode cL_law 552 = .ok (.iconst 2, 1) := by decide +kernel
theorem dL_law_553 : decode cL_law 553 = .ok (.iadd, 1) := by decide +kernel
theorem dL_law_554 : decode cL_law 554 = .ok (.iaload, 1) := by decide +kernel
theorem dL_law_555 : decode cL_law 555 = .ok (.ifCond .eq 7, 3) := by decide +kernel
theorem dL_law_562 : decode cL_law 562 = .ok (.iconst 0, 1) := by decide +kernel
theorem dL_law_563 : decode cL_law 563 = .ok (.aload_n 0, 1) := by decide +kernel
theorem dL_law_564 : decode cL_law 564 = .ok (.iload_n 3, 1) := by decide +kernel
theorem dL_law_565 : decode cL_law 565 = .ok (.iconst 3, 1) := by decide +kernel
theorem dL_law_566 : decode cL_law 566 = .ok (.iadd, 1) := by decide +kernel
theorem dL_law_567 : decode cL_law 567 = .ok (.iaload, 1) := by decide +kernel
theorem dL_law_568 : decode cL_law 568 = .ok (.ifCond .eq 7, 3) := by decide +kernel
theorem dL_law_575 : decode cL_law 575 = .ok (.iconst 0, 1) := by decide +kernel
theorem dL_law_576 : decode cL_law 576 = .ok (.invokevirtual 69, 3) := by decide +kernel
theorem dX12_mark_0 : decode cX12_mark 0 = .ok (.aload_n 0, 1) := by decide +kernel
theorem dX12_mark_1 : decode cX12_mark 1 = .ok (.getfield 13, 3) := by decide +kernel
theorem dX12_mark_4 : decode cX12_mark 4 = .ok (.iload_n 1, 1) := by decide +kernel
theorem dX12_mark_5 : decode cX12_mark 5 = .ok (.invokestatic 94, 3) := by decide +kernel
theorem dX12_isSyllable_0 : decode cX12_isSyllable 0 = .ok (.iload_n 1, 1) := by decide +kernel
theorem dX12_isSyllable_1 : decode cX12_isSyllable 1 = .ok (.iconst 0, 1) := by decide +kernel
theorem dX12_isSyllable_2 : decode cX12_isSyllable 2 = .ok (.aload_n 0, 1) := by decide +kernel
theorem dX12_isSyllable_3 : decode cX12_isSyllable 3 = .ok (.bipush 25, 2) := by decide +kernel
theorem dX12_isSyllable_5 : decode cX12_isSyllable 5 = .ok (.iaload, 1) := by decide +kernel
theorem dX12_isSyllable_6 : decode cX12_isSyllable 6 = .ok (.iconst 1, 1) := by decide +kernel
theorem dX12_isSyllable_7 : decode cX12_isSyllable 7 = .ok (.isub, 1) := by decide +kernel
theorem dX12_isSyllable_8 : decode cX12_isSyllable 8 = .ok (.invokestatic 55, 3) := by decide +kernel
theorem dX12_isSyllable_11 : decode cX12_isSyllable 11 = .ok (.ireturn, 1) := by decide +kernel
set_option maxRecDepth 4000 in
theorem c_X12_isSyllable_177 {l : Launch} {D : va_G} {B : Nat} {cy : Nat → ClassId} {M : Mem} {p1 : Int32} (h0 : M.1 147 25 = 0) (h1 : p1 < 0) : Ci l D B cy yX12_isSyllable cX12_isSyllable 2 (some .boolean) 1 22 [.ref (B + 147), .int p1] M (fun r M1 => r = 0 ∧ M1 = M) := by
  refine s_any (by decide) (Nat.le_of_ble_eq_true rfl) ?_
  intro p e s m below meth c ls F hr hlocks w hl
  have F : CallFix p m c cX12_isSyllable 2 s _ TB RX12 := F
  have hx := F.1
  have hb := F.2.1
  have hl : lv_has ls 2 [(0, .ref (B + 147)), (1, .int p1)] := hl
  refine lv_iload_n hx hb dX12_isSyllable_0 rfl (lv_at hl 1 rfl) ?_
  refine lv_iconst (v := 0) hx hb dX12_isSyllable_1 (by decide) ?_
  refine lv_aload_n hx hb dX12_isSyllable_2 rfl (lv_at hl 0 rfl) ?_
  refine lv_bipush (v := 25) hx hb dX12_isSyllable_3 (by decide) ?_
  refine g_iald F w (a := 147) rfl (j := 25) ⟨by decide, by decide⟩ (by decide) dX12_isSyllable_5 ?_
  refine r_val (v := 0) (h0) ?_
  refine lv_iconst (v := 1) hx hb dX12_isSyllable_6 (by decide) ?_
  refine lv_isub hx hb dX12_isSyllable_7 ?_
  refine r_val (v := (-1)) (by decide) ?_
  refine x_Si F w (As := [.int p1, .int 0, .int (-1)]) (rest := []) (c_X12_in_95 h1) gs_X12_55 hs_X12_in ⟨Nat.le_of_ble_eq_true rfl, Nat.le_of_ble_eq_true rfl⟩ hl.1 rfl (Nat.le_of_ble_eq_true rfl) ⟨Nat.zero_le _, Nat.zero_le _⟩ dX12_isSyllable_8 (fun H locs w => ?_)
  exact e_z F w hr hlocks (by decide) ⟨rfl, rfl⟩ dX12_isSyllable_11
theorem tk_X12_isSyllable : Cond.code yX12_isSyllable cX12_isSyllable 2 (some .boolean) ∈ TB := tbm (tc6 (List.mem_of_getElem? (i := 5) rfl)) rfl
theorem gc_X12_isSyllable : GoodIn TB (cw yX12_isSyllable cX12_isSyllable 2 (some .boolean)) := goodIn_c2 tk_X12_isSyllable
theorem tb_330 : Cond.methodLink "ToneLinesModel" 94 yX12_isSyllable ∈ TB := tbm (tc6 (List.mem_of_getElem? (i := 3) rfl)) rfl
theorem tb_331 : Cond.static yX12_isSyllable ∈ TB := tbm (tc6 (List.mem_of_getElem? (i := 4) rfl)) rfl
theorem gs_X12_94 : GoodIn TB (va_wsS RX12 94 yX12_isSyllable (cw yX12_isSyllable cX12_isSyllable 2 (some .boolean))) := goodIn_3 tb_330 tb_331 tb_150 gc_X12_isSyllable
theorem hs_X12_isSyllable : yX12_isSyllable.cls ≠ "java/lang/invoke/MethodHandle" ∧ yX12_isSyllable.cls ≠ "java/lang/invoke/VarHandle" ∧ (parseMethodDescriptor yX12_isSyllable.desc).map (fun d => d.parameters.length) = some 2 := by decide +kernel
theorem dX12_mark_8 : decode cX12_mark 8 = .ok (.ifCond .eq 33, 3) := by decide +kernel
theorem dX12_mark_41 : decode cX12_mark 41 = .ok (.iconst 0, 1) := by decide +kernel
theorem dX12_mark_42 : decode cX12_mark 42 = .ok (.ireturn, 1) := by decide +kernel
set_option maxRecDepth 4000 in
theorem c_X12_mark_178 {l : Launch} {D : va_G} {B : Nat} {cy : Nat → ClassId} {M : Mem} {p1 : Int32} (h0 : M.1 147 25 = 0) (h1 : p1 < 0) : Ci l D B cy yX12_mark cX12_mark 4 (some .boolean) 2 43 [.ref (B + 146), .int p1, .int 0, .int 0] M (fun r M1 => r = 0 ∧ M1 = M) := by
  refine s_any (by decide) (Nat.le_of_ble_eq_true rfl) ?_
  intro p e s m below meth c ls F hr hlocks w hl
  have F : CallFix p m c cX12_mark 4 s _ TB RX12 := F
  have hx := F.1
  have hb := F.2.1
  have hl : lv_has ls 4 [(0, .ref (B + 146)), (1, .int p1), (2, .int 0), (3, .int 0)] := hl
  refine lv_aload_n hx hb dX12_mark_0 rfl (lv_at hl 0 rfl) ?_
  refine f_12_1 F w (a := 146) rfl tb_126 dX12_mark_1 ?_
  refine lv_iload_n hx hb dX12_mark_4 rfl (lv_at hl 1 rfl) ?_
  refine x_Si F w (As := [.ref (B + 147), .int p1]) (rest := []) (c_X12_isSyllable_177 (h0) h1) gs_X12_94 hs_X12_isSyllable ⟨Nat.le_of_ble_eq_true rfl, Nat.le_of_ble_eq_true rfl⟩ hl.1 rfl (Nat.le_of_ble_eq_true rfl) ⟨Nat.zero_le _, Nat.zero_le _⟩ dX12_mark_5 (fun H locs w => ?_)
  refine lv_if_eq (tgt := 41) hx hb dX12_mark_8 (by decide) (fun _ => ?_) (fun c1 => absurd c1 (by decide))
  refine lv_iconst (v := 0) hx hb dX12_mark_41 (by decide) ?_
  exact e_z F w hr hlocks (by decide) ⟨rfl, rfl⟩ dX12_mark_42
theorem tk_X12_mark : Cond.code yX12_mark cX12_mark 4 (some .boolean) ∈ TB := tbm (tc6 (List.mem_of_getElem? (i := 44) rfl)) rfl
theorem gc_X12_mark : GoodIn TB (cw yX12_mark cX12_mark 4 (some .boolean)) := goodIn_c2 tk_X12_mark
theorem tb_332 : Cond.methodLink "ToneLinesLaw" 69 yX12_mark ∈ TB := tbm (tc6 (List.mem_of_getElem? (i := 41) rfl)) rfl
theorem tb_333 : Cond.instanceMethod yX12_mark ∈ TB := tbm (tc6 (List.mem_of_getElem? (i := 42) rfl)) rfl
theorem tb_334 : Cond.selects "ToneLinesModel" yX12_mark yX12_mark ∈ TB := tbm (tc6 (List.mem_of_getElem? (i := 43) rfl)) rfl
theorem gv_L_69 : GoodIn TB (wsV RL 69 RX12 yX12_mark (cw yX12_mark cX12_mark 4 (some .boolean))) := goodIn_4 tb_332 tb_333 tb_334 tb_150 gc_X12_mark
theorem hv_X12_mark : yX12_mark.cls = RX12 ∧ yX12_mark.cls ≠ "java/lang/invoke/MethodHandle" ∧ yX12_mark.cls ≠ "java/lang/invoke/VarHandle" ∧ (parseMethodDescriptor yX12_mark.desc).map (fun d => d.parameters.length) = some 3 := by decide +kernel
theorem dL_law_579 : decode cL_law 579 = .ok (.if_icmp .eq 486, 3) := by decide +kernel
set_option maxRecDepth 8000 in
theorem la_11_27 {p : Program} {l : Launch} {e : Env} {s : State} {m : MethodId} {below : List Frame} {meth : Method} {c : Code} {D : va_G} {B b : Nat} {cy : Nat → ClassId} {H : Heap} {locs : List Loc} {ls : Array Slot} {xs : Nat → Int32} {Q : State → Prop} (F : CallFix p m c code 4 s #[Value.ref b] TB RL) (hX : va_X b 6 xs s s.heap) (hbl : b < s.heap.size) (hbA : ¬ B ≤ b) (w : Wd D B cy s s.heap M0 H locs) (hl : lv_has ls 4 [(3, .int 0), (2, .ref (B + 146)), (1, .ref (B + 0)), (0, .ref b)]) (x2 : xs 2 = 0) (x3 : xs 3 = 0) (h0 : (xs 1) < 0) (kk : ∀ (M1 : Mem) (H1 : Heap) (locs1 : List Loc), Wd D B cy s s.heap M1 H1 locs1 → W p l e room_1 s m #[Value.ref b] below meth c H1 locs1 159 13107 Q (F0 m 1065 ls [])) : W p l e room_1 s m #[Value.ref b] below meth c H locs 159 13107 Q (F0 m 509 ls []) := by
  have hx := F.1
  have hb := F.2.1
  refine lv_aload_n hx hb dL_law_509 rfl (lv_at hl 2 rfl) ?_
  refine lv_aload_n hx hb dL_law_510 rfl (lv_at hl 3 rfl) ?_
  refine lv_iload_n hx hb dL_law_511 rfl (lv_at hl 0 rfl) ?_
  refine lv_iconst (v := 1) hx hb dL_law_512 (by decide) ?_
  refine lv_iadd hx hb dL_law_513 ?_
  refine r_val (v := 1) (by decide) ?_
  refine va_sld hx hb hX hbl hbA w.2.2.1 (vpi (by decide) (by decide)) dL_law_514 ?_
  refine r_val (v := xs 1) (congrArg xs (show (1 : Int32).toNatClampNeg = 1 by decide)) ?_
  refine lv_aload_n hx hb dL_law_515 rfl (lv_at hl 3 rfl) ?_
  refine lv_iload_n hx hb dL_law_516 rfl (lv_at hl 0 rfl) ?_
  refine lv_iconst (v := 2) hx hb dL_law_517 (by decide) ?_
  refine lv_iadd hx hb dL_law_518 ?_
  refine r_val (v := 2) (by decide) ?_
  refine va_sld hx hb hX hbl hbA w.2.2.1 (vpi (by decide) (by decide)) dL_law_519 ?_
  refine r_val (v := 0) ((congrArg xs (show (2 : Int32).toNatClampNeg = 2 by decide)).trans x2) ?_
  refine lv_if_eq (tgt := 527) hx hb dL_law_520 (by decide) (fun _ => ?_) (fun c1 => absurd c1 (by decide))
  refine lv_iconst (v := 0) hx hb dL_law_527 (by decide) ?_
  refine lv_aload_n hx hb dL_law_528 rfl (lv_at hl 3 rfl) ?_
  refine lv_iload_n hx hb dL_law_529 rfl (lv_at hl 0 rfl) ?_
  refine lv_iconst (v := 3) hx hb dL_law_530 (by decide) ?_
  refine lv_iadd hx hb dL_law_531 ?_
  refine r_val (v := 3) (by decide) ?_
  refine va_sld hx hb hX hbl hbA w.2.2.1 (vpi (by decide) (by decide)) dL_law_532 ?_
  refine r_val (v := 0) ((congrArg xs (show (3 : Int32).toNatClampNeg = 3 by decide)).trans x3) ?_
  refine lv_if_eq (tgt := 540) hx hb dL_law_533 (by decide) (fun _ => ?_) (fun c1 => absurd c1 (by decide))
  refine lv_iconst (v := 0) hx hb dL_law_540 (by decide) ?_
  refine x_Vi F w (As := [.int (xs 1), .int 0, .int 0]) (rest := []) (a := 0) (by decide) (sh_11 rfl _ _) rfl (c_X11_mark_176 h0) gv_L_65 hv_X11_mark ⟨Nat.le_of_ble_eq_true rfl, Nat.le_of_ble_eq_true rfl⟩ hl.1 rfl (Nat.le_of_ble_eq_true rfl) ⟨Nat.le_of_ble_eq_true rfl, Nat.le_of_ble_eq_true rfl⟩ dL_law_541 (fun H locs w => ?_)
  refine lv_aload_n hx hb dL_law_544 rfl (lv_at hl 1 rfl) ?_
  refine lv_aload_n hx hb dL_law_545 rfl (lv_at hl 3 rfl) ?_
  refine lv_iload_n hx hb dL_law_546 rfl (lv_at hl 0 rfl) ?_
  refine lv_iconst (v := 1) hx hb dL_law_547 (by decide) ?_
  refine lv_iadd hx hb dL_law_548 ?_
  refine r_val (v := 1) (by decide) ?_
  refine va_sld hx hb hX hbl hbA w.2.2.1 (vpi (by decide) (by decide)) dL_law_549 ?_
  refine r_val (v := xs 1) (congrArg xs (show (1 : Int32).toNatClampNeg = 1 by decide)) ?_
  refine lv_aload_n hx hb dL_law_550 rfl (lv_at hl 3 rfl) ?_
  refine lv_iload_n hx hb dL_law_551 rfl (lv_at hl 0 rfl) ?_
  refine lv_iconst (v := 2) hx hb dL_law_552 (by decide) ?_
  refine lv_iadd hx hb dL_law_553 ?_
  refine r_val (v := 2) (by decide) ?_
  refine va_sld hx hb hX hbl hbA w.2.2.1 (vpi (by decide) (by decide)) dL_law_554 ?_
  refine r_val (v := 0) ((congrArg xs (show (2 : Int32).toNatClampNeg = 2 by decide)).trans x2) ?_
  refine lv_if_eq (tgt := 562) hx hb dL_law_555 (by decide) (fun _ => ?_) (fun c1 => absurd c1 (by decide))
  refine lv_iconst (v := 0) hx hb dL_law_562 (by decide) ?_
  refine lv_aload_n hx hb dL_law_563 rfl (lv_at hl 3 rfl) ?_
  refine lv_iload_n hx hb dL_law_564 rfl (lv_at hl 0 rfl) ?_
  refine lv_iconst (v := 3) hx hb dL_law_565 (by decide) ?_
  refine lv_iadd hx hb dL_law_566 ?_
  refine r_val (v := 3) (by decide) ?_
  refine va_sld hx hb hX hbl hbA w.2.2.1 (vpi (by decide) (by decide)) dL_law_567 ?_
  refine r_val (v := 0) ((congrArg xs (show (3 : Int32).toNatClampNeg = 3 by decide)).trans x3) ?_
  refine lv_if_eq (tgt := 575) hx hb dL_law_568 (by decide) (fun _ => ?_) (fun c1 => absurd c1 (by decide))
  refine lv_iconst (v := 0) hx hb dL_law_575 (by decide) ?_
  refine x_Vi F w (As := [.int (xs 1), .int 0, .int 0]) (rest := [.int 0]) (a := 146) (by decide) (sh_12 rfl _ _) rfl (c_X12_mark_178 (rfl) h0) gv_L_69 hv_X12_mark ⟨Nat.le_of_ble_eq_true rfl, Nat.le_of_ble_eq_true rfl⟩ hl.1 rfl (Nat.le_of_ble_eq_true rfl) ⟨Nat.le_of_ble_eq_true rfl, Nat.le_of_ble_eq_true rfl⟩ dL_law_576 (fun H locs w => ?_)
  refine lv_icmp_eq (tgt := 1065) hx hb dL_law_579 (by decide) (fun _ => ?_) (fun c1 => absurd c1 (by decide))
  exact kk _ _ _ w
theorem dL_law_536 : decode cL_law 536 = .ok (.iconst 1, 1) := by decide +kernel
theorem dL_law_537 : decode cL_law 537 = .ok (.goto 4, 3) := by decide +kernel
set_option maxRecDepth 4000 in
theorem c_X11_mark_179 {l : Launch} {D : va_G} {B : Nat} {cy : Nat → ClassId} {M : Mem} {p1 : Int32} (h0 : p1 < 0) : Ci l D B cy yX11_mark cX11_mark 4 (some .boolean) 1 21 [.ref (B + 0), .int p1, .int 0, .int 1] M (fun r M1 => r = 0 ∧ M1 = M) := by
  refine s_any (by decide) (Nat.le_of_ble_eq_true rfl) ?_
  intro p e s m below meth c ls F hr hlocks w hl
  have F : CallFix p m c cX11_mark 4 s _ TB RX11 := F
  have hx := F.1
  have hb := F.2.1
  have hl : lv_has ls 4 [(0, .ref (B + 0)), (1, .int p1), (2, .int 0), (3, .int 1)] := hl
  refine lv_aload_n hx hb dX11_mark_0 rfl (lv_at hl 0 rfl) ?_
  refine f_11_4 F w (a := 0) rfl tb_75 dX11_mark_1 ?_
  refine lv_iload_n hx hb dX11_mark_4 rfl (lv_at hl 1 rfl) ?_
  refine x_Vi F w (As := [.int p1]) (rest := []) (a := 44) (by decide) (sh_9 rfl _ _) rfl (c_X9_hasSyllable_175 h0) gv_X11_160 hv_X9_hasSyllable ⟨Nat.le_of_ble_eq_true rfl, Nat.le_of_ble_eq_true rfl⟩ hl.1 rfl (Nat.le_of_ble_eq_true rfl) ⟨Nat.zero_le _, Nat.zero_le _⟩ dX11_mark_5 (fun H locs w => ?_)
  refine lv_if_ne (tgt := 13) hx hb dX11_mark_8 (by decide) (fun c1 => absurd c1 (by decide)) (fun _ => ?_)
  refine lv_iconst (v := 0) hx hb dX11_mark_11 (by decide) ?_
  exact e_z F w hr hlocks (by decide) ⟨rfl, rfl⟩ dX11_mark_12
theorem dL_law_571 : decode cL_law 571 = .ok (.iconst 1, 1) := by decide +kernel
theorem dL_law_572 : decode cL_law 572 = .ok (.goto 4, 3) := by decide +kernel
set_option maxRecDepth 4000 in
theorem c_X12_mark_180 {l : Launch} {D : va_G} {B : Nat} {cy : Nat → ClassId} {M : Mem} {p1 : Int32} (h0 : M.1 147 25 = 0) (h1 : p1 < 0) : Ci l D B cy yX12_mark cX12_mark 4 (some .boolean) 2 43 [.ref (B + 146), .int p1, .int 0, .int 1] M (fun r M1 => r = 0 ∧ M1 = M) := by
  refine s_any (by decide) (Nat.le_of_ble_eq_true rfl) ?_
  intro p e s m below meth c ls F hr hlocks w hl
  have F : CallFix p m c cX12_mark 4 s _ TB RX12 := F
  have hx := F.1
  have hb := F.2.1
  have hl : lv_has ls 4 [(0, .ref (B + 146)), (1, .int p1), (2, .int 0), (3, .int 1)] := hl
  refine lv_aload_n hx hb dX12_mark_0 rfl (lv_at hl 0 rfl) ?_
  refine f_12_1 F w (a := 146) rfl tb_126 dX12_mark_1 ?_
  refine lv_iload_n hx hb dX12_mark_4 rfl (lv_at hl 1 rfl) ?_
  refine x_Si F w (As := [.ref (B + 147), .int p1]) (rest := []) (c_X12_isSyllable_177 (h0) h1) gs_X12_94 hs_X12_isSyllable ⟨Nat.le_of_ble_eq_true rfl, Nat.le_of_ble_eq_true rfl⟩ hl.1 rfl (Nat.le_of_ble_eq_true rfl) ⟨Nat.zero_le _, Nat.zero_le _⟩ dX12_mark_5 (fun H locs w => ?_)
  refine lv_if_eq (tgt := 41) hx hb dX12_mark_8 (by decide) (fun _ => ?_) (fun c1 => absurd c1 (by decide))
  refine lv_iconst (v := 0) hx hb dX12_mark_41 (by decide) ?_
  exact e_z F w hr hlocks (by decide) ⟨rfl, rfl⟩ dX12_mark_42
set_option maxRecDepth 8000 in
theorem la_11_28 {p : Program} {l : Launch} {e : Env} {s : State} {m : MethodId} {below : List Frame} {meth : Method} {c : Code} {D : va_G} {B b : Nat} {cy : Nat → ClassId} {H : Heap} {locs : List Loc} {ls : Array Slot} {xs : Nat → Int32} {Q : State → Prop} (F : CallFix p m c code 4 s #[Value.ref b] TB RL) (hX : va_X b 6 xs s s.heap) (hbl : b < s.heap.size) (hbA : ¬ B ≤ b) (w : Wd D B cy s s.heap M0 H locs) (hl : lv_has ls 4 [(3, .int 0), (2, .ref (B + 146)), (1, .ref (B + 0)), (0, .ref b)]) (x2 : xs 2 = 0) (h0 : ¬ (xs 3) = 0) (h1 : (xs 1) < 0) (kk : ∀ (M1 : Mem) (H1 : Heap) (locs1 : List Loc), Wd D B cy s s.heap M1 H1 locs1 → W p l e room_1 s m #[Value.ref b] below meth c H1 locs1 159 13107 Q (F0 m 1065 ls [])) : W p l e room_1 s m #[Value.ref b] below meth c H locs 159 13107 Q (F0 m 509 ls []) := by
  have hx := F.1
  have hb := F.2.1
  refine lv_aload_n hx hb dL_law_509 rfl (lv_at hl 2 rfl) ?_
  refine lv_aload_n hx hb dL_law_510 rfl (lv_at hl 3 rfl) ?_
  refine lv_iload_n hx hb dL_law_511 rfl (lv_at hl 0 rfl) ?_
  refine lv_iconst (v := 1) hx hb dL_law_512 (by decide) ?_
  refine lv_iadd hx hb dL_law_513 ?_
  refine r_val (v := 1) (by decide) ?_
  refine va_sld hx hb hX hbl hbA w.2.2.1 (vpi (by decide) (by decide)) dL_law_514 ?_
  refine r_val (v := xs 1) (congrArg xs (show (1 : Int32).toNatClampNeg = 1 by decide)) ?_
  refine lv_aload_n hx hb dL_law_515 rfl (lv_at hl 3 rfl) ?_
  refine lv_iload_n hx hb dL_law_516 rfl (lv_at hl 0 rfl) ?_
  refine lv_iconst (v := 2) hx hb dL_law_517 (by decide) ?_
  refine lv_iadd hx hb dL_law_518 ?_
  refine r_val (v := 2) (by decide) ?_
  refine va_sld hx hb hX hbl hbA w.2.2.1 (vpi (by decide) (by decide)) dL_law_519 ?_
  refine r_val (v := 0) ((congrArg xs (show (2 : Int32).toNatClampNeg = 2 by decide)).trans x2) ?_
  refine lv_if_eq (tgt := 527) hx hb dL_law_520 (by decide) (fun _ => ?_) (fun c1 => absurd c1 (by decide))
  refine lv_iconst (v := 0) hx hb dL_law_527 (by decide) ?_
  refine lv_aload_n hx hb dL_law_528 rfl (lv_at hl 3 rfl) ?_
  refine lv_iload_n hx hb dL_law_529 rfl (lv_at hl 0 rfl) ?_
  refine lv_iconst (v := 3) hx hb dL_law_530 (by decide) ?_
  refine lv_iadd hx hb dL_law_531 ?_
  refine r_val (v := 3) (by decide) ?_
  refine va_sld hx hb hX hbl hbA w.2.2.1 (vpi (by decide) (by decide)) dL_law_532 ?_
  refine r_val (v := xs 3) (congrArg xs (show (3 : Int32).toNatClampNeg = 3 by decide)) ?_
  refine lv_if_eq (tgt := 540) hx hb dL_law_533 (by decide) (fun c1 => absurd c1 h0) (fun _ => ?_)
  refine lv_iconst (v := 1) hx hb dL_law_536 (by decide) ?_
  refine lv_goto (tgt := 541) hx hb dL_law_537 (by decide) ?_
  refine x_Vi F w (As := [.int (xs 1), .int 0, .int 1]) (rest := []) (a := 0) (by decide) (sh_11 rfl _ _) rfl (c_X11_mark_179 h1) gv_L_65 hv_X11_mark ⟨Nat.le_of_ble_eq_true rfl, Nat.le_of_ble_eq_true rfl⟩ hl.1 rfl (Nat.le_of_ble_eq_true rfl) ⟨Nat.le_of_ble_eq_true rfl, Nat.le_of_ble_eq_true rfl⟩ dL_law_541 (fun H locs w => ?_)
  refine lv_aload_n hx hb dL_law_544 rfl (lv_at hl 1 rfl) ?_
  refine lv_aload_n hx hb dL_law_545 rfl (lv_at hl 3 rfl) ?_
  refine lv_iload_n hx hb dL_law_546 rfl (lv_at hl 0 rfl) ?_
  refine lv_iconst (v := 1) hx hb dL_law_547 (by decide) ?_
  refine lv_iadd hx hb dL_law_548 ?_
  refine r_val (v := 1) (by decide) ?_
  refine va_sld hx hb hX hbl hbA w.2.2.1 (vpi (by decide) (by decide)) dL_law_549 ?_
  refine r_val (v := xs 1) (congrArg xs (show (1 : Int32).toNatClampNeg = 1 by decide)) ?_
  refine lv_aload_n hx hb dL_law_550 rfl (lv_at hl 3 rfl) ?_
  refine lv_iload_n hx hb dL_law_551 rfl (lv_at hl 0 rfl) ?_
  refine lv_iconst (v := 2) hx hb dL_law_552 (by decide) ?_
  refine lv_iadd hx hb dL_law_553 ?_
  refine r_val (v := 2) (by decide) ?_
  refine va_sld hx hb hX hbl hbA w.2.2.1 (vpi (by decide) (by decide)) dL_law_554 ?_
  refine r_val (v := 0) ((congrArg xs (show (2 : Int32).toNatClampNeg = 2 by decide)).trans x2) ?_
  refine lv_if_eq (tgt := 562) hx hb dL_law_555 (by decide) (fun _ => ?_) (fun c1 => absurd c1 (by decide))
  refine lv_iconst (v := 0) hx hb dL_law_562 (by decide) ?_
  refine lv_aload_n hx hb dL_law_563 rfl (lv_at hl 3 rfl) ?_
  refine lv_iload_n hx hb dL_law_564 rfl (lv_at hl 0 rfl) ?_
  refine lv_iconst (v := 3) hx hb dL_law_565 (by decide) ?_
  refine lv_iadd hx hb dL_law_566 ?_
  refine r_val (v := 3) (by decide) ?_
  refine va_sld hx hb hX hbl hbA w.2.2.1 (vpi (by decide) (by decide)) dL_law_567 ?_
  refine r_val (v := xs 3) (congrArg xs (show (3 : Int32).toNatClampNeg = 3 by decide)) ?_
  refine lv_if_eq (tgt := 575) hx hb dL_law_568 (by decide) (fun c1 => absurd c1 h0) (fun _ => ?_)
  refine lv_iconst (v := 1) hx hb dL_law_571 (by decide) ?_
  refine lv_goto (tgt := 576) hx hb dL_law_572 (by decide) ?_
  refine x_Vi F w (As := [.int (xs 1), .int 0, .int 1]) (rest := [.int 0]) (a := 146) (by decide) (sh_12 rfl _ _) rfl (c_X12_mark_180 (rfl) h1) gv_L_69 hv_X12_mark ⟨Nat.le_of_ble_eq_true rfl, Nat.le_of_ble_eq_true rfl⟩ hl.1 rfl (Nat.le_of_ble_eq_true rfl) ⟨Nat.le_of_ble_eq_true rfl, Nat.le_of_ble_eq_true rfl⟩ dL_law_576 (fun H locs w => ?_)
  refine lv_icmp_eq (tgt := 1065) hx hb dL_law_579 (by decide) (fun _ => ?_) (fun c1 => absurd c1 (by decide))
  exact kk _ _ _ w
theorem dL_law_523 : decode cL_law 523 = .ok (.iconst 1, 1) := by decide +kernel
theorem dL_law_524 : decode cL_law 524 = .ok (.goto 4, 3) := by decide +kernel
set_option maxRecDepth 4000 in
theorem c_X11_mark_181 {l : Launch} {D : va_G} {B : Nat} {cy : Nat → ClassId} {M : Mem} {p1 : Int32} (h0 : p1 < 0) : Ci l D B cy yX11_mark cX11_mark 4 (some .boolean) 1 21 [.ref (B + 0), .int p1, .int 1, .int 0] M (fun r M1 => r = 0 ∧ M1 = M) := by
  refine s_any (by decide) (Nat.le_of_ble_eq_true rfl) ?_
  intro p e s m below meth c ls F hr hlocks w hl
  have F : CallFix p m c cX11_mark 4 s _ TB RX11 := F
  have hx := F.1
  have hb := F.2.1
  have hl : lv_has ls 4 [(0, .ref (B + 0)), (1, .int p1), (2, .int 1), (3, .int 0)] := hl
  refine lv_aload_n hx hb dX11_mark_0 rfl (lv_at hl 0 rfl) ?_
  refine f_11_4 F w (a := 0) rfl tb_75 dX11_mark_1 ?_
  refine lv_iload_n hx hb dX11_mark_4 rfl (lv_at hl 1 rfl) ?_
  refine x_Vi F w (As := [.int p1]) (rest := []) (a := 44) (by decide) (sh_9 rfl _ _) rfl (c_X9_hasSyllable_175 h0) gv_X11_160 hv_X9_hasSyllable ⟨Nat.le_of_ble_eq_true rfl, Nat.le_of_ble_eq_true rfl⟩ hl.1 rfl (Nat.le_of_ble_eq_true rfl) ⟨Nat.zero_le _, Nat.zero_le _⟩ dX11_mark_5 (fun H locs w => ?_)
  refine lv_if_ne (tgt := 13) hx hb dX11_mark_8 (by decide) (fun c1 => absurd c1 (by decide)) (fun _ => ?_)
  refine lv_iconst (v := 0) hx hb dX11_mark_11 (by decide) ?_
  exact e_z F w hr hlocks (by decide) ⟨rfl, rfl⟩ dX11_mark_12
theorem dL_law_558 : decode cL_law 558 = .ok (.iconst 1, 1) := by decide +kernel
theorem dL_law_559 : decode cL_law 559 = .ok (.goto 4, 3) := by decide +kernel
set_option maxRecDepth 4000 in
theorem c_X12_mark_182 {l : Launch} {D : va_G} {B : Nat} {cy : Nat → ClassId} {M : Mem} {p1 : Int32} (h0 : M.1 147 25 = 0) (h1 : p1 < 0) : Ci l D B cy yX12_mark cX12_mark 4 (some .boolean) 2 43 [.ref (B + 146), .int p1, .int 1, .int 0] M (fun r M1 => r = 0 ∧ M1 = M) := by
  refine s_any (by decide) (Nat.le_of_ble_eq_true rfl) ?_
  intro p e s m below meth c ls F hr hlocks w hl
  have F : CallFix p m c cX12_mark 4 s _ TB RX12 := F
  have hx := F.1
  have hb := F.2.1
  have hl : lv_has ls 4 [(0, .ref (B + 146)), (1, .int p1), (2, .int 1), (3, .int 0)] := hl
  refine lv_aload_n hx hb dX12_mark_0 rfl (lv_at hl 0 rfl) ?_
  refine f_12_1 F w (a := 146) rfl tb_126 dX12_mark_1 ?_
  refine lv_iload_n hx hb dX12_mark_4 rfl (lv_at hl 1 rfl) ?_
  refine x_Si F w (As := [.ref (B + 147), .int p1]) (rest := []) (c_X12_isSyllable_177 (h0) h1) gs_X12_94 hs_X12_isSyllable ⟨Nat.le_of_ble_eq_true rfl, Nat.le_of_ble_eq_true rfl⟩ hl.1 rfl (Nat.le_of_ble_eq_true rfl) ⟨Nat.zero_le _, Nat.zero_le _⟩ dX12_mark_5 (fun H locs w => ?_)
  refine lv_if_eq (tgt := 41) hx hb dX12_mark_8 (by decide) (fun _ => ?_) (fun c1 => absurd c1 (by decide))
  refine lv_iconst (v := 0) hx hb dX12_mark_41 (by decide) ?_
  exact e_z F w hr hlocks (by decide) ⟨rfl, rfl⟩ dX12_mark_42
set_option maxRecDepth 8000 in
theorem la_11_29 {p : Program} {l : Launch} {e : Env} {s : State} {m : MethodId} {below : List Frame} {meth : Method} {c : Code} {D : va_G} {B b : Nat} {cy : Nat → ClassId} {H : Heap} {locs : List Loc} {ls : Array Slot} {xs : Nat → Int32} {Q : State → Prop} (F : CallFix p m c code 4 s #[Value.ref b] TB RL) (hX : va_X b 6 xs s s.heap) (hbl : b < s.heap.size) (hbA : ¬ B ≤ b) (w : Wd D B cy s s.heap M0 H locs) (hl : lv_has ls 4 [(3, .int 0), (2, .ref (B + 146)), (1, .ref (B + 0)), (0, .ref b)]) (x3 : xs 3 = 0) (h0 : ¬ (xs 2) = 0) (h1 : (xs 1) < 0) (kk : ∀ (M1 : Mem) (H1 : Heap) (locs1 : List Loc), Wd D B cy s s.heap M1 H1 locs1 → W p l e room_1 s m #[Value.ref b] below meth c H1 locs1 159 13107 Q (F0 m 1065 ls [])) : W p l e room_1 s m #[Value.ref b] below meth c H locs 159 13107 Q (F0 m 509 ls []) := by
  have hx := F.1
  have hb := F.2.1
  refine lv_aload_n hx hb dL_law_509 rfl (lv_at hl 2 rfl) ?_
  refine lv_aload_n hx hb dL_law_510 rfl (lv_at hl 3 rfl) ?_
  refine lv_iload_n hx hb dL_law_511 rfl (lv_at hl 0 rfl) ?_
  refine lv_iconst (v := 1) hx hb dL_law_512 (by decide) ?_
  refine lv_iadd hx hb dL_law_513 ?_
  refine r_val (v := 1) (by decide) ?_
  refine va_sld hx hb hX hbl hbA w.2.2.1 (vpi (by decide) (by decide)) dL_law_514 ?_
  refine r_val (v := xs 1) (congrArg xs (show (1 : Int32).toNatClampNeg = 1 by decide)) ?_
  refine lv_aload_n hx hb dL_law_515 rfl (lv_at hl 3 rfl) ?_
  refine lv_iload_n hx hb dL_law_516 rfl (lv_at hl 0 rfl) ?_
  refine lv_iconst (v := 2) hx hb dL_law_517 (by decide) ?_
  refine lv_iadd hx hb dL_law_518 ?_
  refine r_val (v := 2) (by decide) ?_
  refine va_sld hx hb hX hbl hbA w.2.2.1 (vpi (by decide) (by decide)) dL_law_519 ?_
  refine r_val (v := xs 2) (congrArg xs (show (2 : Int32).toNatClampNeg = 2 by decide)) ?_
  refine lv_if_eq (tgt := 527) hx hb dL_law_520 (by decide) (fun c1 => absurd c1 h0) (fun _ => ?_)
  refine lv_iconst (v := 1) hx hb dL_law_523 (by decide) ?_
  refine lv_goto (tgt := 528) hx hb dL_law_524 (by decide) ?_
  refine lv_aload_n hx hb dL_law_528 rfl (lv_at hl 3 rfl) ?_
  refine lv_iload_n hx hb dL_law_529 rfl (lv_at hl 0 rfl) ?_
  refine lv_iconst (v := 3) hx hb dL_law_530 (by decide) ?_
  refine lv_iadd hx hb dL_law_531 ?_
  refine r_val (v := 3) (by decide) ?_
  refine va_sld hx hb hX hbl hbA w.2.2.1 (vpi (by decide) (by decide)) dL_law_532 ?_
  refine r_val (v := 0) ((congrArg xs (show (3 : Int32).toNatClampNeg = 3 by decide)).trans x3) ?_
  refine lv_if_eq (tgt := 540) hx hb dL_law_533 (by decide) (fun _ => ?_) (fun c1 => absurd c1 (by decide))
  refine lv_iconst (v := 0) hx hb dL_law_540 (by decide) ?_
  refine x_Vi F w (As := [.int (xs 1), .int 1, .int 0]) (rest := []) (a := 0) (by decide) (sh_11 rfl _ _) rfl (c_X11_mark_181 h1) gv_L_65 hv_X11_mark ⟨Nat.le_of_ble_eq_true rfl, Nat.le_of_ble_eq_true rfl⟩ hl.1 rfl (Nat.le_of_ble_eq_true rfl) ⟨Nat.le_of_ble_eq_true rfl, Nat.le_of_ble_eq_true rfl⟩ dL_law_541 (fun H locs w => ?_)
  refine lv_aload_n hx hb dL_law_544 rfl (lv_at hl 1 rfl) ?_
  refine lv_aload_n hx hb dL_law_545 rfl (lv_at hl 3 rfl) ?_
  refine lv_iload_n hx hb dL_law_546 rfl (lv_at hl 0 rfl) ?_
  refine lv_iconst (v := 1) hx hb dL_law_547 (by decide) ?_
  refine lv_iadd hx hb dL_law_548 ?_
  refine r_val (v := 1) (by decide) ?_
  refine va_sld hx hb hX hbl hbA w.2.2.1 (vpi (by decide) (by decide)) dL_law_549 ?_
  refine r_val (v := xs 1) (congrArg xs (show (1 : Int32).toNatClampNeg = 1 by decide)) ?_
  refine lv_aload_n hx hb dL_law_550 rfl (lv_at hl 3 rfl) ?_
  refine lv_iload_n hx hb dL_law_551 rfl (lv_at hl 0 rfl) ?_
  refine lv_iconst (v := 2) hx hb dL_law_552 (by decide) ?_
  refine lv_iadd hx hb dL_law_553 ?_
  refine r_val (v := 2) (by decide) ?_
  refine va_sld hx hb hX hbl hbA w.2.2.1 (vpi (by decide) (by decide)) dL_law_554 ?_
  refine r_val (v := xs 2) (congrArg xs (show (2 : Int32).toNatClampNeg = 2 by decide)) ?_
  refine lv_if_eq (tgt := 562) hx hb dL_law_555 (by decide) (fun c1 => absurd c1 h0) (fun _ => ?_)
  refine lv_iconst (v := 1) hx hb dL_law_558 (by decide) ?_
  refine lv_goto (tgt := 563) hx hb dL_law_559 (by decide) ?_
  refine lv_aload_n hx hb dL_law_563 rfl (lv_at hl 3 rfl) ?_
  refine lv_iload_n hx hb dL_law_564 rfl (lv_at hl 0 rfl) ?_
  refine lv_iconst (v := 3) hx hb dL_law_565 (by decide) ?_
  refine lv_iadd hx hb dL_law_566 ?_
  refine r_val (v := 3) (by decide) ?_
  refine va_sld hx hb hX hbl hbA w.2.2.1 (vpi (by decide) (by decide)) dL_law_567 ?_
  refine r_val (v := 0) ((congrArg xs (show (3 : Int32).toNatClampNeg = 3 by decide)).trans x3) ?_
  refine lv_if_eq (tgt := 575) hx hb dL_law_568 (by decide) (fun _ => ?_) (fun c1 => absurd c1 (by decide))
  refine lv_iconst (v := 0) hx hb dL_law_575 (by decide) ?_
  refine x_Vi F w (As := [.int (xs 1), .int 1, .int 0]) (rest := [.int 0]) (a := 146) (by decide) (sh_12 rfl _ _) rfl (c_X12_mark_182 (rfl) h1) gv_L_69 hv_X12_mark ⟨Nat.le_of_ble_eq_true rfl, Nat.le_of_ble_eq_true rfl⟩ hl.1 rfl (Nat.le_of_ble_eq_true rfl) ⟨Nat.le_of_ble_eq_true rfl, Nat.le_of_ble_eq_true rfl⟩ dL_law_576 (fun H locs w => ?_)
  refine lv_icmp_eq (tgt := 1065) hx hb dL_law_579 (by decide) (fun _ => ?_) (fun c1 => absurd c1 (by decide))
  exact kk _ _ _ w
set_option maxRecDepth 4000 in
theorem c_X11_mark_183 {l : Launch} {D : va_G} {B : Nat} {cy : Nat → ClassId} {M : Mem} {p1 : Int32} (h0 : p1 < 0) : Ci l D B cy yX11_mark cX11_mark 4 (some .boolean) 1 21 [.ref (B + 0), .int p1, .int 1, .int 1] M (fun r M1 => r = 0 ∧ M1 = M) := by
  refine s_any (by decide) (Nat.le_of_ble_eq_true rfl) ?_
  intro p e s m below meth c ls F hr hlocks w hl
  have F : CallFix p m c cX11_mark 4 s _ TB RX11 := F
  have hx := F.1
  have hb := F.2.1
  have hl : lv_has ls 4 [(0, .ref (B + 0)), (1, .int p1), (2, .int 1), (3, .int 1)] := hl
  refine lv_aload_n hx hb dX11_mark_0 rfl (lv_at hl 0 rfl) ?_
  refine f_11_4 F w (a := 0) rfl tb_75 dX11_mark_1 ?_
  refine lv_iload_n hx hb dX11_mark_4 rfl (lv_at hl 1 rfl) ?_
  refine x_Vi F w (As := [.int p1]) (rest := []) (a := 44) (by decide) (sh_9 rfl _ _) rfl (c_X9_hasSyllable_175 h0) gv_X11_160 hv_X9_hasSyllable ⟨Nat.le_of_ble_eq_true rfl, Nat.le_of_ble_eq_true rfl⟩ hl.1 rfl (Nat.le_of_ble_eq_true rfl) ⟨Nat.zero_le _, Nat.zero_le _⟩ dX11_mark_5 (fun H locs w => ?_)
  refine lv_if_ne (tgt := 13) hx hb dX11_mark_8 (by decide) (fun c1 => absurd c1 (by decide)) (fun _ => ?_)
  refine lv_iconst (v := 0) hx hb dX11_mark_11 (by decide) ?_
  exact e_z F w hr hlocks (by decide) ⟨rfl, rfl⟩ dX11_mark_12
set_option maxRecDepth 4000 in
theorem c_X12_mark_184 {l : Launch} {D : va_G} {B : Nat} {cy : Nat → ClassId} {M : Mem} {p1 : Int32} (h0 : M.1 147 25 = 0) (h1 : p1 < 0) : Ci l D B cy yX12_mark cX12_mark 4 (some .boolean) 2 43 [.ref (B + 146), .int p1, .int 1, .int 1] M (fun r M1 => r = 0 ∧ M1 = M) := by
  refine s_any (by decide) (Nat.le_of_ble_eq_true rfl) ?_
  intro p e s m below meth c ls F hr hlocks w hl
  have F : CallFix p m c cX12_mark 4 s _ TB RX12 := F
  have hx := F.1
  have hb := F.2.1
  have hl : lv_has ls 4 [(0, .ref (B + 146)), (1, .int p1), (2, .int 1), (3, .int 1)] := hl
  refine lv_aload_n hx hb dX12_mark_0 rfl (lv_at hl 0 rfl) ?_
  refine f_12_1 F w (a := 146) rfl tb_126 dX12_mark_1 ?_
  refine lv_iload_n hx hb dX12_mark_4 rfl (lv_at hl 1 rfl) ?_
  refine x_Si F w (As := [.ref (B + 147), .int p1]) (rest := []) (c_X12_isSyllable_177 (h0) h1) gs_X12_94 hs_X12_isSyllable ⟨Nat.le_of_ble_eq_true rfl, Nat.le_of_ble_eq_true rfl⟩ hl.1 rfl (Nat.le_of_ble_eq_true rfl) ⟨Nat.zero_le _, Nat.zero_le _⟩ dX12_mark_5 (fun H locs w => ?_)
  refine lv_if_eq (tgt := 41) hx hb dX12_mark_8 (by decide) (fun _ => ?_) (fun c1 => absurd c1 (by decide))
  refine lv_iconst (v := 0) hx hb dX12_mark_41 (by decide) ?_
  exact e_z F w hr hlocks (by decide) ⟨rfl, rfl⟩ dX12_mark_42
set_option maxRecDepth 8000 in
theorem la_11_30 {p : Program} {l : Launch} {e : Env} {s : State} {m : MethodId} {below : List Frame} {meth : Method} {c : Code} {D : va_G} {B b : Nat} {cy : Nat → ClassId} {H : Heap} {locs : List Loc} {ls : Array Slot} {xs : Nat → Int32} {Q : State → Prop} (F : CallFix p m c code 4 s #[Value.ref b] TB RL) (hX : va_X b 6 xs s s.heap) (hbl : b < s.heap.size) (hbA : ¬ B ≤ b) (w : Wd D B cy s s.heap M0 H locs) (hl : lv_has ls 4 [(3, .int 0), (2, .ref (B + 146)), (1, .ref (B + 0)), (0, .ref b)]) (h0 : ¬ (xs 2) = 0) (h1 : ¬ (xs 3) = 0) (h2 : (xs 1) < 0) (kk : ∀ (M1 : Mem) (H1 : Heap) (locs1 : List Loc), Wd D B cy s s.heap M1 H1 locs1 → W p l e room_1 s m #[Value.ref b] below meth c H1 locs1 159 13107 Q (F0 m 1065 ls [])) : W p l e room_1 s m #[Value.ref b] below meth c H locs 159 13107 Q (F0 m 509 ls []) := by
  have hx := F.1
  have hb := F.2.1
  refine lv_aload_n hx hb dL_law_509 rfl (lv_at hl 2 rfl) ?_
  refine lv_aload_n hx hb dL_law_510 rfl (lv_at hl 3 rfl) ?_
  refine lv_iload_n hx hb dL_law_511 rfl (lv_at hl 0 rfl) ?_
  refine lv_iconst (v := 1) hx hb dL_law_512 (by decide) ?_
  refine lv_iadd hx hb dL_law_513 ?_
  refine r_val (v := 1) (by decide) ?_
  refine va_sld hx hb hX hbl hbA w.2.2.1 (vpi (by decide) (by decide)) dL_law_514 ?_
  refine r_val (v := xs 1) (congrArg xs (show (1 : Int32).toNatClampNeg = 1 by decide)) ?_
  refine lv_aload_n hx hb dL_law_515 rfl (lv_at hl 3 rfl) ?_
  refine lv_iload_n hx hb dL_law_516 rfl (lv_at hl 0 rfl) ?_
  refine lv_iconst (v := 2) hx hb dL_law_517 (by decide) ?_
  refine lv_iadd hx hb dL_law_518 ?_
  refine r_val (v := 2) (by decide) ?_
  refine va_sld hx hb hX hbl hbA w.2.2.1 (vpi (by decide) (by decide)) dL_law_519 ?_
  refine r_val (v := xs 2) (congrArg xs (show (2 : Int32).toNatClampNeg = 2 by decide)) ?_
  refine lv_if_eq (tgt := 527) hx hb dL_law_520 (by decide) (fun c1 => absurd c1 h0) (fun _ => ?_)
  refine lv_iconst (v := 1) hx hb dL_law_523 (by decide) ?_
  refine lv_goto (tgt := 528) hx hb dL_law_524 (by decide) ?_
  refine lv_aload_n hx hb dL_law_528 rfl (lv_at hl 3 rfl) ?_
  refine lv_iload_n hx hb dL_law_529 rfl (lv_at hl 0 rfl) ?_
  refine lv_iconst (v := 3) hx hb dL_law_530 (by decide) ?_
  refine lv_iadd hx hb dL_law_531 ?_
  refine r_val (v := 3) (by decide) ?_
  refine va_sld hx hb hX hbl hbA w.2.2.1 (vpi (by decide) (by decide)) dL_law_532 ?_
  refine r_val (v := xs 3) (congrArg xs (show (3 : Int32).toNatClampNeg = 3 by decide)) ?_
  refine lv_if_eq (tgt := 540) hx hb dL_law_533 (by decide) (fun c1 => absurd c1 h1) (fun _ => ?_)
  refine lv_iconst (v := 1) hx hb dL_law_536 (by decide) ?_
  refine lv_goto (tgt := 541) hx hb dL_law_537 (by decide) ?_
  refine x_Vi F w (As := [.int (xs 1), .int 1, .int 1]) (rest := []) (a := 0) (by decide) (sh_11 rfl _ _) rfl (c_X11_mark_183 h2) gv_L_65 hv_X11_mark ⟨Nat.le_of_ble_eq_true rfl, Nat.le_of_ble_eq_true rfl⟩ hl.1 rfl (Nat.le_of_ble_eq_true rfl) ⟨Nat.le_of_ble_eq_true rfl, Nat.le_of_ble_eq_true rfl⟩ dL_law_541 (fun H locs w => ?_)
  refine lv_aload_n hx hb dL_law_544 rfl (lv_at hl 1 rfl) ?_
  refine lv_aload_n hx hb dL_law_545 rfl (lv_at hl 3 rfl) ?_
  refine lv_iload_n hx hb dL_law_546 rfl (lv_at hl 0 rfl) ?_
  refine lv_iconst (v := 1) hx hb dL_law_547 (by decide) ?_
  refine lv_iadd hx hb dL_law_548 ?_
  refine r_val (v := 1) (by decide) ?_
  refine va_sld hx hb hX hbl hbA w.2.2.1 (vpi (by decide) (by decide)) dL_law_549 ?_
  refine r_val (v := xs 1) (congrArg xs (show (1 : Int32).toNatClampNeg = 1 by decide)) ?_
  refine lv_aload_n hx hb dL_law_550 rfl (lv_at hl 3 rfl) ?_
  refine lv_iload_n hx hb dL_law_551 rfl (lv_at hl 0 rfl) ?_
  refine lv_iconst (v := 2) hx hb dL_law_552 (by decide) ?_
  refine lv_iadd hx hb dL_law_553 ?_
  refine r_val (v := 2) (by decide) ?_
  refine va_sld hx hb hX hbl hbA w.2.2.1 (vpi (by decide) (by decide)) dL_law_554 ?_
  refine r_val (v := xs 2) (congrArg xs (show (2 : Int32).toNatClampNeg = 2 by decide)) ?_
  refine lv_if_eq (tgt := 562) hx hb dL_law_555 (by decide) (fun c1 => absurd c1 h0) (fun _ => ?_)
  refine lv_iconst (v := 1) hx hb dL_law_558 (by decide) ?_
  refine lv_goto (tgt := 563) hx hb dL_law_559 (by decide) ?_
  refine lv_aload_n hx hb dL_law_563 rfl (lv_at hl 3 rfl) ?_
  refine lv_iload_n hx hb dL_law_564 rfl (lv_at hl 0 rfl) ?_
  refine lv_iconst (v := 3) hx hb dL_law_565 (by decide) ?_
  refine lv_iadd hx hb dL_law_566 ?_
  refine r_val (v := 3) (by decide) ?_
  refine va_sld hx hb hX hbl hbA w.2.2.1 (vpi (by decide) (by decide)) dL_law_567 ?_
  refine r_val (v := xs 3) (congrArg xs (show (3 : Int32).toNatClampNeg = 3 by decide)) ?_
  refine lv_if_eq (tgt := 575) hx hb dL_law_568 (by decide) (fun c1 => absurd c1 h1) (fun _ => ?_)
  refine lv_iconst (v := 1) hx hb dL_law_571 (by decide) ?_
  refine lv_goto (tgt := 576) hx hb dL_law_572 (by decide) ?_
  refine x_Vi F w (As := [.int (xs 1), .int 1, .int 1]) (rest := [.int 0]) (a := 146) (by decide) (sh_12 rfl _ _) rfl (c_X12_mark_184 (rfl) h2) gv_L_69 hv_X12_mark ⟨Nat.le_of_ble_eq_true rfl, Nat.le_of_ble_eq_true rfl⟩ hl.1 rfl (Nat.le_of_ble_eq_true rfl) ⟨Nat.le_of_ble_eq_true rfl, Nat.le_of_ble_eq_true rfl⟩ dL_law_576 (fun H locs w => ?_)
  refine lv_icmp_eq (tgt := 1065) hx hb dL_law_579 (by decide) (fun _ => ?_) (fun c1 => absurd c1 (by decide))
  exact kk _ _ _ w
theorem dX9_hasSyllable_4 : decode cX9_hasSyllable 4 = .ok (.iload_n 1, 1) := by decide +kernel
theorem dX9_hasSyllable_5 : decode cX9_hasSyllable 5 = .ok (.aload_n 0, 1) := by decide +kernel
theorem dX9_hasSyllable_6 : decode cX9_hasSyllable 6 = .ok (.getfield 15, 3) := by decide +kernel
theorem dX9_hasSyllable_9 : decode cX9_hasSyllable 9 = .ok (.if_icmp .ge 7, 3) := by decide +kernel
set_option maxRecDepth 4000 in
theorem c_X9_hasSyllable_185 {l : Launch} {D : va_G} {B : Nat} {cy : Nat → ClassId} {M : Mem} {p1 : Int32} (h0 : ¬ p1 < 0) (h1 : M.1 44 1 = 0) (h2 : 0 ≤ p1) : Ci l D B cy yX9_hasSyllable cX9_hasSyllable 2 (some .boolean) 0 0 [.ref (B + 44), .int p1] M (fun r M1 => r = 0 ∧ M1 = M) := by
  refine s_any (by decide) (Nat.le_of_ble_eq_true rfl) ?_
  intro p e s m below meth c ls F hr hlocks w hl
  have F : CallFix p m c cX9_hasSyllable 2 s _ TB RX9 := F
  have hx := F.1
  have hb := F.2.1
  have hl : lv_has ls 2 [(0, .ref (B + 44)), (1, .int p1)] := hl
  refine lv_iload_n hx hb dX9_hasSyllable_0 rfl (lv_at hl 1 rfl) ?_
  refine lv_if_lt (tgt := 16) hx hb dX9_hasSyllable_1 (by decide) (fun c1 => absurd c1 h0) (fun _ => ?_)
  refine lv_iload_n hx hb dX9_hasSyllable_4 rfl (lv_at hl 1 rfl) ?_
  refine lv_aload_n hx hb dX9_hasSyllable_5 rfl (lv_at hl 0 rfl) ?_
  refine f_9_1 F w (a := 44) rfl tb_64 dX9_hasSyllable_6 ?_
  refine r_val (v := 0) (h1) ?_
  refine lv_icmp_ge (tgt := 16) hx hb dX9_hasSyllable_9 (by decide) (fun _ => ?_) (fun c1 => absurd h2 c1)
  refine lv_iconst (v := 0) hx hb dX9_hasSyllable_16 (by decide) ?_
  exact e_z F w hr hlocks (by decide) ⟨rfl, rfl⟩ dX9_hasSyllable_17
set_option maxRecDepth 4000 in
theorem c_X11_mark_186 {l : Launch} {D : va_G} {B : Nat} {cy : Nat → ClassId} {M : Mem} {p1 : Int32} (h0 : ¬ p1 < 0) (h1 : M.1 44 1 = 0) (h2 : 0 ≤ p1) : Ci l D B cy yX11_mark cX11_mark 4 (some .boolean) 1 21 [.ref (B + 0), .int p1, .int 0, .int 0] M (fun r M1 => r = 0 ∧ M1 = M) := by
  refine s_any (by decide) (Nat.le_of_ble_eq_true rfl) ?_
  intro p e s m below meth c ls F hr hlocks w hl
  have F : CallFix p m c cX11_mark 4 s _ TB RX11 := F
  have hx := F.1
  have hb := F.2.1
  have hl : lv_has ls 4 [(0, .ref (B + 0)), (1, .int p1), (2, .int 0), (3, .int 0)] := hl
  refine lv_aload_n hx hb dX11_mark_0 rfl (lv_at hl 0 rfl) ?_
  refine f_11_4 F w (a := 0) rfl tb_75 dX11_mark_1 ?_
  refine lv_iload_n hx hb dX11_mark_4 rfl (lv_at hl 1 rfl) ?_
  refine x_Vi F w (As := [.int p1]) (rest := []) (a := 44) (by decide) (sh_9 rfl _ _) rfl (c_X9_hasSyllable_185 h0 (h1) h2) gv_X11_160 hv_X9_hasSyllable ⟨Nat.le_of_ble_eq_true rfl, Nat.le_of_ble_eq_true rfl⟩ hl.1 rfl (Nat.le_of_ble_eq_true rfl) ⟨Nat.zero_le _, Nat.zero_le _⟩ dX11_mark_5 (fun H locs w => ?_)
  refine lv_if_ne (tgt := 13) hx hb dX11_mark_8 (by decide) (fun c1 => absurd c1 (by decide)) (fun _ => ?_)
  refine lv_iconst (v := 0) hx hb dX11_mark_11 (by decide) ?_
  exact e_z F w hr hlocks (by decide) ⟨rfl, rfl⟩ dX11_mark_12
set_option maxRecDepth 4000 in
theorem c_X12_isSyllable_187 {l : Launch} {D : va_G} {B : Nat} {cy : Nat → ClassId} {M : Mem} {p1 : Int32} (h0 : M.1 147 25 = 0) (h1 : ¬ p1 < 0) (h2 : (-1) < p1) : Ci l D B cy yX12_isSyllable cX12_isSyllable 2 (some .boolean) 1 22 [.ref (B + 147), .int p1] M (fun r M1 => r = 0 ∧ M1 = M) := by
  refine s_any (by decide) (Nat.le_of_ble_eq_true rfl) ?_
  intro p e s m below meth c ls F hr hlocks w hl
  have F : CallFix p m c cX12_isSyllable 2 s _ TB RX12 := F
  have hx := F.1
  have hb := F.2.1
  have hl : lv_has ls 2 [(0, .ref (B + 147)), (1, .int p1)] := hl
  refine lv_iload_n hx hb dX12_isSyllable_0 rfl (lv_at hl 1 rfl) ?_
  refine lv_iconst (v := 0) hx hb dX12_isSyllable_1 (by decide) ?_
  refine lv_aload_n hx hb dX12_isSyllable_2 rfl (lv_at hl 0 rfl) ?_
  refine lv_bipush (v := 25) hx hb dX12_isSyllable_3 (by decide) ?_
  refine g_iald F w (a := 147) rfl (j := 25) ⟨by decide, by decide⟩ (by decide) dX12_isSyllable_5 ?_
  refine r_val (v := 0) (h0) ?_
  refine lv_iconst (v := 1) hx hb dX12_isSyllable_6 (by decide) ?_
  refine lv_isub hx hb dX12_isSyllable_7 ?_
  refine r_val (v := (-1)) (by decide) ?_
  refine x_Si F w (As := [.int p1, .int 0, .int (-1)]) (rest := []) (c_X12_in_101 h1 h2) gs_X12_55 hs_X12_in ⟨Nat.le_of_ble_eq_true rfl, Nat.le_of_ble_eq_true rfl⟩ hl.1 rfl (Nat.le_of_ble_eq_true rfl) ⟨Nat.zero_le _, Nat.zero_le _⟩ dX12_isSyllable_8 (fun H locs w => ?_)
  exact e_z F w hr hlocks (by decide) ⟨rfl, rfl⟩ dX12_isSyllable_11
set_option maxRecDepth 4000 in
theorem c_X12_mark_188 {l : Launch} {D : va_G} {B : Nat} {cy : Nat → ClassId} {M : Mem} {p1 : Int32} (h0 : M.1 147 25 = 0) (h1 : ¬ p1 < 0) (h2 : (-1) < p1) : Ci l D B cy yX12_mark cX12_mark 4 (some .boolean) 2 43 [.ref (B + 146), .int p1, .int 0, .int 0] M (fun r M1 => r = 0 ∧ M1 = M) := by
  refine s_any (by decide) (Nat.le_of_ble_eq_true rfl) ?_
  intro p e s m below meth c ls F hr hlocks w hl
  have F : CallFix p m c cX12_mark 4 s _ TB RX12 := F
  have hx := F.1
  have hb := F.2.1
  have hl : lv_has ls 4 [(0, .ref (B + 146)), (1, .int p1), (2, .int 0), (3, .int 0)] := hl
  refine lv_aload_n hx hb dX12_mark_0 rfl (lv_at hl 0 rfl) ?_
  refine f_12_1 F w (a := 146) rfl tb_126 dX12_mark_1 ?_
  refine lv_iload_n hx hb dX12_mark_4 rfl (lv_at hl 1 rfl) ?_
  refine x_Si F w (As := [.ref (B + 147), .int p1]) (rest := []) (c_X12_isSyllable_187 (h0) h1 h2) gs_X12_94 hs_X12_isSyllable ⟨Nat.le_of_ble_eq_true rfl, Nat.le_of_ble_eq_true rfl⟩ hl.1 rfl (Nat.le_of_ble_eq_true rfl) ⟨Nat.zero_le _, Nat.zero_le _⟩ dX12_mark_5 (fun H locs w => ?_)
  refine lv_if_eq (tgt := 41) hx hb dX12_mark_8 (by decide) (fun _ => ?_) (fun c1 => absurd c1 (by decide))
  refine lv_iconst (v := 0) hx hb dX12_mark_41 (by decide) ?_
  exact e_z F w hr hlocks (by decide) ⟨rfl, rfl⟩ dX12_mark_42
set_option maxRecDepth 8000 in
theorem la_11_31 {p : Program} {l : Launch} {e : Env} {s : State} {m : MethodId} {below : List Frame} {meth : Method} {c : Code} {D : va_G} {B b : Nat} {cy : Nat → ClassId} {H : Heap} {locs : List Loc} {ls : Array Slot} {xs : Nat → Int32} {Q : State → Prop} (F : CallFix p m c code 4 s #[Value.ref b] TB RL) (hX : va_X b 6 xs s s.heap) (hbl : b < s.heap.size) (hbA : ¬ B ≤ b) (w : Wd D B cy s s.heap M0 H locs) (hl : lv_has ls 4 [(3, .int 0), (2, .ref (B + 146)), (1, .ref (B + 0)), (0, .ref b)]) (x2 : xs 2 = 0) (x3 : xs 3 = 0) (h0 : ¬ (xs 1) < 0) (h1 : 0 ≤ (xs 1)) (h2 : (-1) < (xs 1)) (kk : ∀ (M1 : Mem) (H1 : Heap) (locs1 : List Loc), Wd D B cy s s.heap M1 H1 locs1 → W p l e room_1 s m #[Value.ref b] below meth c H1 locs1 159 13107 Q (F0 m 1065 ls [])) : W p l e room_1 s m #[Value.ref b] below meth c H locs 159 13107 Q (F0 m 509 ls []) := by
  have hx := F.1
  have hb := F.2.1
  refine lv_aload_n hx hb dL_law_509 rfl (lv_at hl 2 rfl) ?_
  refine lv_aload_n hx hb dL_law_510 rfl (lv_at hl 3 rfl) ?_
  refine lv_iload_n hx hb dL_law_511 rfl (lv_at hl 0 rfl) ?_
  refine lv_iconst (v := 1) hx hb dL_law_512 (by decide) ?_
  refine lv_iadd hx hb dL_law_513 ?_
  refine r_val (v := 1) (by decide) ?_
  refine va_sld hx hb hX hbl hbA w.2.2.1 (vpi (by decide) (by decide)) dL_law_514 ?_
  refine r_val (v := xs 1) (congrArg xs (show (1 : Int32).toNatClampNeg = 1 by decide)) ?_
  refine lv_aload_n hx hb dL_law_515 rfl (lv_at hl 3 rfl) ?_
  refine lv_iload_n hx hb dL_law_516 rfl (lv_at hl 0 rfl) ?_
  refine lv_iconst (v := 2) hx hb dL_law_517 (by decide) ?_
  refine lv_iadd hx hb dL_law_518 ?_
  refine r_val (v := 2) (by decide) ?_
  refine va_sld hx hb hX hbl hbA w.2.2.1 (vpi (by decide) (by decide)) dL_law_519 ?_
  refine r_val (v := 0) ((congrArg xs (show (2 : Int32).toNatClampNeg = 2 by decide)).trans x2) ?_
  refine lv_if_eq (tgt := 527) hx hb dL_law_520 (by decide) (fun _ => ?_) (fun c1 => absurd c1 (by decide))
  refine lv_iconst (v := 0) hx hb dL_law_527 (by decide) ?_
  refine lv_aload_n hx hb dL_law_528 rfl (lv_at hl 3 rfl) ?_
  refine lv_iload_n hx hb dL_law_529 rfl (lv_at hl 0 rfl) ?_
  refine lv_iconst (v := 3) hx hb dL_law_530 (by decide) ?_
  refine lv_iadd hx hb dL_law_531 ?_
  refine r_val (v := 3) (by decide) ?_
  refine va_sld hx hb hX hbl hbA w.2.2.1 (vpi (by decide) (by decide)) dL_law_532 ?_
  refine r_val (v := 0) ((congrArg xs (show (3 : Int32).toNatClampNeg = 3 by decide)).trans x3) ?_
  refine lv_if_eq (tgt := 540) hx hb dL_law_533 (by decide) (fun _ => ?_) (fun c1 => absurd c1 (by decide))
  refine lv_iconst (v := 0) hx hb dL_law_540 (by decide) ?_
  refine x_Vi F w (As := [.int (xs 1), .int 0, .int 0]) (rest := []) (a := 0) (by decide) (sh_11 rfl _ _) rfl (c_X11_mark_186 h0 (rfl) h1) gv_L_65 hv_X11_mark ⟨Nat.le_of_ble_eq_true rfl, Nat.le_of_ble_eq_true rfl⟩ hl.1 rfl (Nat.le_of_ble_eq_true rfl) ⟨Nat.le_of_ble_eq_true rfl, Nat.le_of_ble_eq_true rfl⟩ dL_law_541 (fun H locs w => ?_)
  refine lv_aload_n hx hb dL_law_544 rfl (lv_at hl 1 rfl) ?_
  refine lv_aload_n hx hb dL_law_545 rfl (lv_at hl 3 rfl) ?_
  refine lv_iload_n hx hb dL_law_546 rfl (lv_at hl 0 rfl) ?_
  refine lv_iconst (v := 1) hx hb dL_law_547 (by decide) ?_
  refine lv_iadd hx hb dL_law_548 ?_
  refine r_val (v := 1) (by decide) ?_
  refine va_sld hx hb hX hbl hbA w.2.2.1 (vpi (by decide) (by decide)) dL_law_549 ?_
  refine r_val (v := xs 1) (congrArg xs (show (1 : Int32).toNatClampNeg = 1 by decide)) ?_
  refine lv_aload_n hx hb dL_law_550 rfl (lv_at hl 3 rfl) ?_
  refine lv_iload_n hx hb dL_law_551 rfl (lv_at hl 0 rfl) ?_
  refine lv_iconst (v := 2) hx hb dL_law_552 (by decide) ?_
  refine lv_iadd hx hb dL_law_553 ?_
  refine r_val (v := 2) (by decide) ?_
  refine va_sld hx hb hX hbl hbA w.2.2.1 (vpi (by decide) (by decide)) dL_law_554 ?_
  refine r_val (v := 0) ((congrArg xs (show (2 : Int32).toNatClampNeg = 2 by decide)).trans x2) ?_
  refine lv_if_eq (tgt := 562) hx hb dL_law_555 (by decide) (fun _ => ?_) (fun c1 => absurd c1 (by decide))
  refine lv_iconst (v := 0) hx hb dL_law_562 (by decide) ?_
  refine lv_aload_n hx hb dL_law_563 rfl (lv_at hl 3 rfl) ?_
  refine lv_iload_n hx hb dL_law_564 rfl (lv_at hl 0 rfl) ?_
  refine lv_iconst (v := 3) hx hb dL_law_565 (by decide) ?_
  refine lv_iadd hx hb dL_law_566 ?_
  refine r_val (v := 3) (by decide) ?_
  refine va_sld hx hb hX hbl hbA w.2.2.1 (vpi (by decide) (by decide)) dL_law_567 ?_
  refine r_val (v := 0) ((congrArg xs (show (3 : Int32).toNatClampNeg = 3 by decide)).trans x3) ?_
  refine lv_if_eq (tgt := 575) hx hb dL_law_568 (by decide) (fun _ => ?_) (fun c1 => absurd c1 (by decide))
  refine lv_iconst (v := 0) hx hb dL_law_575 (by decide) ?_
  refine x_Vi F w (As := [.int (xs 1), .int 0, .int 0]) (rest := [.int 0]) (a := 146) (by decide) (sh_12 rfl _ _) rfl (c_X12_mark_188 (rfl) h0 h2) gv_L_69 hv_X12_mark ⟨Nat.le_of_ble_eq_true rfl, Nat.le_of_ble_eq_true rfl⟩ hl.1 rfl (Nat.le_of_ble_eq_true rfl) ⟨Nat.le_of_ble_eq_true rfl, Nat.le_of_ble_eq_true rfl⟩ dL_law_576 (fun H locs w => ?_)
  refine lv_icmp_eq (tgt := 1065) hx hb dL_law_579 (by decide) (fun _ => ?_) (fun c1 => absurd c1 (by decide))
  exact kk _ _ _ w
set_option maxRecDepth 4000 in
theorem c_X11_mark_189 {l : Launch} {D : va_G} {B : Nat} {cy : Nat → ClassId} {M : Mem} {p1 : Int32} (h0 : ¬ p1 < 0) (h1 : M.1 44 1 = 0) (h2 : 0 ≤ p1) : Ci l D B cy yX11_mark cX11_mark 4 (some .boolean) 1 21 [.ref (B + 0), .int p1, .int 0, .int 1] M (fun r M1 => r = 0 ∧ M1 = M) := by
  refine s_any (by decide) (Nat.le_of_ble_eq_true rfl) ?_
  intro p e s m below meth c ls F hr hlocks w hl
  have F : CallFix p m c cX11_mark 4 s _ TB RX11 := F
  have hx := F.1
  have hb := F.2.1
  have hl : lv_has ls 4 [(0, .ref (B + 0)), (1, .int p1), (2, .int 0), (3, .int 1)] := hl
  refine lv_aload_n hx hb dX11_mark_0 rfl (lv_at hl 0 rfl) ?_
  refine f_11_4 F w (a := 0) rfl tb_75 dX11_mark_1 ?_
  refine lv_iload_n hx hb dX11_mark_4 rfl (lv_at hl 1 rfl) ?_
  refine x_Vi F w (As := [.int p1]) (rest := []) (a := 44) (by decide) (sh_9 rfl _ _) rfl (c_X9_hasSyllable_185 h0 (h1) h2) gv_X11_160 hv_X9_hasSyllable ⟨Nat.le_of_ble_eq_true rfl, Nat.le_of_ble_eq_true rfl⟩ hl.1 rfl (Nat.le_of_ble_eq_true rfl) ⟨Nat.zero_le _, Nat.zero_le _⟩ dX11_mark_5 (fun H locs w => ?_)
  refine lv_if_ne (tgt := 13) hx hb dX11_mark_8 (by decide) (fun c1 => absurd c1 (by decide)) (fun _ => ?_)
  refine lv_iconst (v := 0) hx hb dX11_mark_11 (by decide) ?_
  exact e_z F w hr hlocks (by decide) ⟨rfl, rfl⟩ dX11_mark_12
set_option maxRecDepth 4000 in
theorem c_X12_mark_190 {l : Launch} {D : va_G} {B : Nat} {cy : Nat → ClassId} {M : Mem} {p1 : Int32} (h0 : M.1 147 25 = 0) (h1 : ¬ p1 < 0) (h2 : (-1) < p1) : Ci l D B cy yX12_mark cX12_mark 4 (some .boolean) 2 43 [.ref (B + 146), .int p1, .int 0, .int 1] M (fun r M1 => r = 0 ∧ M1 = M) := by
  refine s_any (by decide) (Nat.le_of_ble_eq_true rfl) ?_
  intro p e s m below meth c ls F hr hlocks w hl
  have F : CallFix p m c cX12_mark 4 s _ TB RX12 := F
  have hx := F.1
  have hb := F.2.1
  have hl : lv_has ls 4 [(0, .ref (B + 146)), (1, .int p1), (2, .int 0), (3, .int 1)] := hl
  refine lv_aload_n hx hb dX12_mark_0 rfl (lv_at hl 0 rfl) ?_
  refine f_12_1 F w (a := 146) rfl tb_126 dX12_mark_1 ?_
  refine lv_iload_n hx hb dX12_mark_4 rfl (lv_at hl 1 rfl) ?_
  refine x_Si F w (As := [.ref (B + 147), .int p1]) (rest := []) (c_X12_isSyllable_187 (h0) h1 h2) gs_X12_94 hs_X12_isSyllable ⟨Nat.le_of_ble_eq_true rfl, Nat.le_of_ble_eq_true rfl⟩ hl.1 rfl (Nat.le_of_ble_eq_true rfl) ⟨Nat.zero_le _, Nat.zero_le _⟩ dX12_mark_5 (fun H locs w => ?_)
  refine lv_if_eq (tgt := 41) hx hb dX12_mark_8 (by decide) (fun _ => ?_) (fun c1 => absurd c1 (by decide))
  refine lv_iconst (v := 0) hx hb dX12_mark_41 (by decide) ?_
  exact e_z F w hr hlocks (by decide) ⟨rfl, rfl⟩ dX12_mark_42
set_option maxRecDepth 8000 in
theorem la_11_32 {p : Program} {l : Launch} {e : Env} {s : State} {m : MethodId} {below : List Frame} {meth : Method} {c : Code} {D : va_G} {B b : Nat} {cy : Nat → ClassId} {H : Heap} {locs : List Loc} {ls : Array Slot} {xs : Nat → Int32} {Q : State → Prop} (F : CallFix p m c code 4 s #[Value.ref b] TB RL) (hX : va_X b 6 xs s s.heap) (hbl : b < s.heap.size) (hbA : ¬ B ≤ b) (w : Wd D B cy s s.heap M0 H locs) (hl : lv_has ls 4 [(3, .int 0), (2, .ref (B + 146)), (1, .ref (B + 0)), (0, .ref b)]) (x2 : xs 2 = 0) (h0 : ¬ (xs 3) = 0) (h1 : ¬ (xs 1) < 0) (h2 : 0 ≤ (xs 1)) (h3 : (-1) < (xs 1)) (kk : ∀ (M1 : Mem) (H1 : Heap) (locs1 : List Loc), Wd D B cy s s.heap M1 H1 locs1 → W p l e room_1 s m #[Value.ref b] below meth c H1 locs1 159 13107 Q (F0 m 1065 ls [])) : W p l e room_1 s m #[Value.ref b] below meth c H locs 159 13107 Q (F0 m 509 ls []) := by
  have hx := F.1
  have hb := F.2.1
  refine lv_aload_n hx hb dL_law_509 rfl (lv_at hl 2 rfl) ?_
  refine lv_aload_n hx hb dL_law_510 rfl (lv_at hl 3 rfl) ?_
  refine lv_iload_n hx hb dL_law_511 rfl (lv_at hl 0 rfl) ?_
  refine lv_iconst (v := 1) hx hb dL_law_512 (by decide) ?_
  refine lv_iadd hx hb dL_law_513 ?_
  refine r_val (v := 1) (by decide) ?_
  refine va_sld hx hb hX hbl hbA w.2.2.1 (vpi (by decide) (by decide)) dL_law_514 ?_
  refine r_val (v := xs 1) (congrArg xs (show (1 : Int32).toNatClampNeg = 1 by decide)) ?_
  refine lv_aload_n hx hb dL_law_515 rfl (lv_at hl 3 rfl) ?_
  refine lv_iload_n hx hb dL_law_516 rfl (lv_at hl 0 rfl) ?_
  refine lv_iconst (v := 2) hx hb dL_law_517 (by decide) ?_
  refine lv_iadd hx hb dL_law_518 ?_
  refine r_val (v := 2) (by decide) ?_
  refine va_sld hx hb hX hbl hbA w.2.2.1 (vpi (by decide) (by decide)) dL_law_519 ?_
  refine r_val (v := 0) ((congrArg xs (show (2 : Int32).toNatClampNeg = 2 by decide)).trans x2) ?_
  refine lv_if_eq (tgt := 527) hx hb dL_law_520 (by decide) (fun _ => ?_) (fun c1 => absurd c1 (by decide))
  refine lv_iconst (v := 0) hx hb dL_law_527 (by decide) ?_
  refine lv_aload_n hx hb dL_law_528 rfl (lv_at hl 3 rfl) ?_
  refine lv_iload_n hx hb dL_law_529 rfl (lv_at hl 0 rfl) ?_
  refine lv_iconst (v := 3) hx hb dL_law_530 (by decide) ?_
  refine lv_iadd hx hb dL_law_531 ?_
  refine r_val (v := 3) (by decide) ?_
  refine va_sld hx hb hX hbl hbA w.2.2.1 (vpi (by decide) (by decide)) dL_law_532 ?_
  refine r_val (v := xs 3) (congrArg xs (show (3 : Int32).toNatClampNeg = 3 by decide)) ?_
  refine lv_if_eq (tgt := 540) hx hb dL_law_533 (by decide) (fun c1 => absurd c1 h0) (fun _ => ?_)
  refine lv_iconst (v := 1) hx hb dL_law_536 (by decide) ?_
  refine lv_goto (tgt := 541) hx hb dL_law_537 (by decide) ?_
  refine x_Vi F w (As := [.int (xs 1), .int 0, .int 1]) (rest := []) (a := 0) (by decide) (sh_11 rfl _ _) rfl (c_X11_mark_189 h1 (rfl) h2) gv_L_65 hv_X11_mark ⟨Nat.le_of_ble_eq_true rfl, Nat.le_of_ble_eq_true rfl⟩ hl.1 rfl (Nat.le_of_ble_eq_true rfl) ⟨Nat.le_of_ble_eq_true rfl, Nat.le_of_ble_eq_true rfl⟩ dL_law_541 (fun H locs w => ?_)
  refine lv_aload_n hx hb dL_law_544 rfl (lv_at hl 1 rfl) ?_
  refine lv_aload_n hx hb dL_law_545 rfl (lv_at hl 3 rfl) ?_
  refine lv_iload_n hx hb dL_law_546 rfl (lv_at hl 0 rfl) ?_
  refine lv_iconst (v := 1) hx hb dL_law_547 (by decide) ?_
  refine lv_iadd hx hb dL_law_548 ?_
  refine r_val (v := 1) (by decide) ?_
  refine va_sld hx hb hX hbl hbA w.2.2.1 (vpi (by decide) (by decide)) dL_law_549 ?_
  refine r_val (v := xs 1) (congrArg xs (show (1 : Int32).toNatClampNeg = 1 by decide)) ?_
  refine lv_aload_n hx hb dL_law_550 rfl (lv_at hl 3 rfl) ?_
  refine lv_iload_n hx hb dL_law_551 rfl (lv_at hl 0 rfl) ?_
  refine lv_iconst (v := 2) hx hb dL_law_552 (by decide) ?_
  refine lv_iadd hx hb dL_law_553 ?_
  refine r_val (v := 2) (by decide) ?_
  refine va_sld hx hb hX hbl hbA w.2.2.1 (vpi (by decide) (by decide)) dL_law_554 ?_
  refine r_val (v := 0) ((congrArg xs (show (2 : Int32).toNatClampNeg = 2 by decide)).trans x2) ?_
  refine lv_if_eq (tgt := 562) hx hb dL_law_555 (by decide) (fun _ => ?_) (fun c1 => absurd c1 (by decide))
  refine lv_iconst (v := 0) hx hb dL_law_562 (by decide) ?_
  refine lv_aload_n hx hb dL_law_563 rfl (lv_at hl 3 rfl) ?_
  refine lv_iload_n hx hb dL_law_564 rfl (lv_at hl 0 rfl) ?_
  refine lv_iconst (v := 3) hx hb dL_law_565 (by decide) ?_
  refine lv_iadd hx hb dL_law_566 ?_
  refine r_val (v := 3) (by decide) ?_
  refine va_sld hx hb hX hbl hbA w.2.2.1 (vpi (by decide) (by decide)) dL_law_567 ?_
  refine r_val (v := xs 3) (congrArg xs (show (3 : Int32).toNatClampNeg = 3 by decide)) ?_
  refine lv_if_eq (tgt := 575) hx hb dL_law_568 (by decide) (fun c1 => absurd c1 h0) (fun _ => ?_)
  refine lv_iconst (v := 1) hx hb dL_law_571 (by decide) ?_
  refine lv_goto (tgt := 576) hx hb dL_law_572 (by decide) ?_
  refine x_Vi F w (As := [.int (xs 1), .int 0, .int 1]) (rest := [.int 0]) (a := 146) (by decide) (sh_12 rfl _ _) rfl (c_X12_mark_190 (rfl) h1 h3) gv_L_69 hv_X12_mark ⟨Nat.le_of_ble_eq_true rfl, Nat.le_of_ble_eq_true rfl⟩ hl.1 rfl (Nat.le_of_ble_eq_true rfl) ⟨Nat.le_of_ble_eq_true rfl, Nat.le_of_ble_eq_true rfl⟩ dL_law_576 (fun H locs w => ?_)
  refine lv_icmp_eq (tgt := 1065) hx hb dL_law_579 (by decide) (fun _ => ?_) (fun c1 => absurd c1 (by decide))
  exact kk _ _ _ w
set_option maxRecDepth 4000 in
theorem c_X11_mark_191 {l : Launch} {D : va_G} {B : Nat} {cy : Nat → ClassId} {M : Mem} {p1 : Int32} (h0 : ¬ p1 < 0) (h1 : M.1 44 1 = 0) (h2 : 0 ≤ p1) : Ci l D B cy yX11_mark cX11_mark 4 (some .boolean) 1 21 [.ref (B + 0), .int p1, .int 1, .int 0] M (fun r M1 => r = 0 ∧ M1 = M) := by
  refine s_any (by decide) (Nat.le_of_ble_eq_true rfl) ?_
  intro p e s m below meth c ls F hr hlocks w hl
  have F : CallFix p m c cX11_mark 4 s _ TB RX11 := F
  have hx := F.1
  have hb := F.2.1
  have hl : lv_has ls 4 [(0, .ref (B + 0)), (1, .int p1), (2, .int 1), (3, .int 0)] := hl
  refine lv_aload_n hx hb dX11_mark_0 rfl (lv_at hl 0 rfl) ?_
  refine f_11_4 F w (a := 0) rfl tb_75 dX11_mark_1 ?_
  refine lv_iload_n hx hb dX11_mark_4 rfl (lv_at hl 1 rfl) ?_
  refine x_Vi F w (As := [.int p1]) (rest := []) (a := 44) (by decide) (sh_9 rfl _ _) rfl (c_X9_hasSyllable_185 h0 (h1) h2) gv_X11_160 hv_X9_hasSyllable ⟨Nat.le_of_ble_eq_true rfl, Nat.le_of_ble_eq_true rfl⟩ hl.1 rfl (Nat.le_of_ble_eq_true rfl) ⟨Nat.zero_le _, Nat.zero_le _⟩ dX11_mark_5 (fun H locs w => ?_)
  refine lv_if_ne (tgt := 13) hx hb dX11_mark_8 (by decide) (fun c1 => absurd c1 (by decide)) (fun _ => ?_)
  refine lv_iconst (v := 0) hx hb dX11_mark_11 (by decide) ?_
  exact e_z F w hr hlocks (by decide) ⟨rfl, rfl⟩ dX11_mark_12
set_option maxRecDepth 4000 in
theorem c_X12_mark_192 {l : Launch} {D : va_G} {B : Nat} {cy : Nat → ClassId} {M : Mem} {p1 : Int32} (h0 : M.1 147 25 = 0) (h1 : ¬ p1 < 0) (h2 : (-1) < p1) : Ci l D B cy yX12_mark cX12_mark 4 (some .boolean) 2 43 [.ref (B + 146), .int p1, .int 1, .int 0] M (fun r M1 => r = 0 ∧ M1 = M) := by
  refine s_any (by decide) (Nat.le_of_ble_eq_true rfl) ?_
  intro p e s m below meth c ls F hr hlocks w hl
  have F : CallFix p m c cX12_mark 4 s _ TB RX12 := F
  have hx := F.1
  have hb := F.2.1
  have hl : lv_has ls 4 [(0, .ref (B + 146)), (1, .int p1), (2, .int 1), (3, .int 0)] := hl
  refine lv_aload_n hx hb dX12_mark_0 rfl (lv_at hl 0 rfl) ?_
  refine f_12_1 F w (a := 146) rfl tb_126 dX12_mark_1 ?_
  refine lv_iload_n hx hb dX12_mark_4 rfl (lv_at hl 1 rfl) ?_
  refine x_Si F w (As := [.ref (B + 147), .int p1]) (rest := []) (c_X12_isSyllable_187 (h0) h1 h2) gs_X12_94 hs_X12_isSyllable ⟨Nat.le_of_ble_eq_true rfl, Nat.le_of_ble_eq_true rfl⟩ hl.1 rfl (Nat.le_of_ble_eq_true rfl) ⟨Nat.zero_le _, Nat.zero_le _⟩ dX12_mark_5 (fun H locs w => ?_)
  refine lv_if_eq (tgt := 41) hx hb dX12_mark_8 (by decide) (fun _ => ?_) (fun c1 => absurd c1 (by decide))
  refine lv_iconst (v := 0) hx hb dX12_mark_41 (by decide) ?_
  exact e_z F w hr hlocks (by decide) ⟨rfl, rfl⟩ dX12_mark_42
set_option maxRecDepth 8000 in
theorem la_11_33 {p : Program} {l : Launch} {e : Env} {s : State} {m : MethodId} {below : List Frame} {meth : Method} {c : Code} {D : va_G} {B b : Nat} {cy : Nat → ClassId} {H : Heap} {locs : List Loc} {ls : Array Slot} {xs : Nat → Int32} {Q : State → Prop} (F : CallFix p m c code 4 s #[Value.ref b] TB RL) (hX : va_X b 6 xs s s.heap) (hbl : b < s.heap.size) (hbA : ¬ B ≤ b) (w : Wd D B cy s s.heap M0 H locs) (hl : lv_has ls 4 [(3, .int 0), (2, .ref (B + 146)), (1, .ref (B + 0)), (0, .ref b)]) (x3 : xs 3 = 0) (h0 : ¬ (xs 2) = 0) (h1 : ¬ (xs 1) < 0) (h2 : 0 ≤ (xs 1)) (h3 : (-1) < (xs 1)) (kk : ∀ (M1 : Mem) (H1 : Heap) (locs1 : List Loc), Wd D B cy s s.heap M1 H1 locs1 → W p l e room_1 s m #[Value.ref b] below meth c H1 locs1 159 13107 Q (F0 m 1065 ls [])) : W p l e room_1 s m #[Value.ref b] below meth c H locs 159 13107 Q (F0 m 509 ls []) := by
  have hx := F.1
  have hb := F.2.1
  refine lv_aload_n hx hb dL_law_509 rfl (lv_at hl 2 rfl) ?_
  refine lv_aload_n hx hb dL_law_510 rfl (lv_at hl 3 rfl) ?_
  refine lv_iload_n hx hb dL_law_511 rfl (lv_at hl 0 rfl) ?_
  refine lv_iconst (v := 1) hx hb dL_law_512 (by decide) ?_
  refine lv_iadd hx hb dL_law_513 ?_
  refine r_val (v := 1) (by decide) ?_
  refine va_sld hx hb hX hbl hbA w.2.2.1 (vpi (by decide) (by decide)) dL_law_514 ?_
  refine r_val (v := xs 1) (congrArg xs (show (1 : Int32).toNatClampNeg = 1 by decide)) ?_
  refine lv_aload_n hx hb dL_law_515 rfl (lv_at hl 3 rfl) ?_
  refine lv_iload_n hx hb dL_law_516 rfl (lv_at hl 0 rfl) ?_
  refine lv_iconst (v := 2) hx hb dL_law_517 (by decide) ?_
  refine lv_iadd hx hb dL_law_518 ?_
  refine r_val (v := 2) (by decide) ?_
  refine va_sld hx hb hX hbl hbA w.2.2.1 (vpi (by decide) (by decide)) dL_law_519 ?_
  refine r_val (v := xs 2) (congrArg xs (show (2 : Int32).toNatClampNeg = 2 by decide)) ?_
  refine lv_if_eq (tgt := 527) hx hb dL_law_520 (by decide) (fun c1 => absurd c1 h0) (fun _ => ?_)
  refine lv_iconst (v := 1) hx hb dL_law_523 (by decide) ?_
  refine lv_goto (tgt := 528) hx hb dL_law_524 (by decide) ?_
  refine lv_aload_n hx hb dL_law_528 rfl (lv_at hl 3 rfl) ?_
  refine lv_iload_n hx hb dL_law_529 rfl (lv_at hl 0 rfl) ?_
  refine lv_iconst (v := 3) hx hb dL_law_530 (by decide) ?_
  refine lv_iadd hx hb dL_law_531 ?_
  refine r_val (v := 3) (by decide) ?_
  refine va_sld hx hb hX hbl hbA w.2.2.1 (vpi (by decide) (by decide)) dL_law_532 ?_
  refine r_val (v := 0) ((congrArg xs (show (3 : Int32).toNatClampNeg = 3 by decide)).trans x3) ?_
  refine lv_if_eq (tgt := 540) hx hb dL_law_533 (by decide) (fun _ => ?_) (fun c1 => absurd c1 (by decide))
  refine lv_iconst (v := 0) hx hb dL_law_540 (by decide) ?_
  refine x_Vi F w (As := [.int (xs 1), .int 1, .int 0]) (rest := []) (a := 0) (by decide) (sh_11 rfl _ _) rfl (c_X11_mark_191 h1 (rfl) h2) gv_L_65 hv_X11_mark ⟨Nat.le_of_ble_eq_true rfl, Nat.le_of_ble_eq_true rfl⟩ hl.1 rfl (Nat.le_of_ble_eq_true rfl) ⟨Nat.le_of_ble_eq_true rfl, Nat.le_of_ble_eq_true rfl⟩ dL_law_541 (fun H locs w => ?_)
  refine lv_aload_n hx hb dL_law_544 rfl (lv_at hl 1 rfl) ?_
  refine lv_aload_n hx hb dL_law_545 rfl (lv_at hl 3 rfl) ?_
  refine lv_iload_n hx hb dL_law_546 rfl (lv_at hl 0 rfl) ?_
  refine lv_iconst (v := 1) hx hb dL_law_547 (by decide) ?_
  refine lv_iadd hx hb dL_law_548 ?_
  refine r_val (v := 1) (by decide) ?_
  refine va_sld hx hb hX hbl hbA w.2.2.1 (vpi (by decide) (by decide)) dL_law_549 ?_
  refine r_val (v := xs 1) (congrArg xs (show (1 : Int32).toNatClampNeg = 1 by decide)) ?_
  refine lv_aload_n hx hb dL_law_550 rfl (lv_at hl 3 rfl) ?_
  refine lv_iload_n hx hb dL_law_551 rfl (lv_at hl 0 rfl) ?_
  refine lv_iconst (v := 2) hx hb dL_law_552 (by decide) ?_
  refine lv_iadd hx hb dL_law_553 ?_
  refine r_val (v := 2) (by decide) ?_
  refine va_sld hx hb hX hbl hbA w.2.2.1 (vpi (by decide) (by decide)) dL_law_554 ?_
  refine r_val (v := xs 2) (congrArg xs (show (2 : Int32).toNatClampNeg = 2 by decide)) ?_
  refine lv_if_eq (tgt := 562) hx hb dL_law_555 (by decide) (fun c1 => absurd c1 h0) (fun _ => ?_)
  refine lv_iconst (v := 1) hx hb dL_law_558 (by decide) ?_
  refine lv_goto (tgt := 563) hx hb dL_law_559 (by decide) ?_
  refine lv_aload_n hx hb dL_law_563 rfl (lv_at hl 3 rfl) ?_
  refine lv_iload_n hx hb dL_law_564 rfl (lv_at hl 0 rfl) ?_
  refine lv_iconst (v := 3) hx hb dL_law_565 (by decide) ?_
  refine lv_iadd hx hb dL_law_566 ?_
  refine r_val (v := 3) (by decide) ?_
  refine va_sld hx hb hX hbl hbA w.2.2.1 (vpi (by decide) (by decide)) dL_law_567 ?_
  refine r_val (v := 0) ((congrArg xs (show (3 : Int32).toNatClampNeg = 3 by decide)).trans x3) ?_
  refine lv_if_eq (tgt := 575) hx hb dL_law_568 (by decide) (fun _ => ?_) (fun c1 => absurd c1 (by decide))
  refine lv_iconst (v := 0) hx hb dL_law_575 (by decide) ?_
  refine x_Vi F w (As := [.int (xs 1), .int 1, .int 0]) (rest := [.int 0]) (a := 146) (by decide) (sh_12 rfl _ _) rfl (c_X12_mark_192 (rfl) h1 h3) gv_L_69 hv_X12_mark ⟨Nat.le_of_ble_eq_true rfl, Nat.le_of_ble_eq_true rfl⟩ hl.1 rfl (Nat.le_of_ble_eq_true rfl) ⟨Nat.le_of_ble_eq_true rfl, Nat.le_of_ble_eq_true rfl⟩ dL_law_576 (fun H locs w => ?_)
  refine lv_icmp_eq (tgt := 1065) hx hb dL_law_579 (by decide) (fun _ => ?_) (fun c1 => absurd c1 (by decide))
  exact kk _ _ _ w
set_option maxRecDepth 4000 in
theorem c_X11_mark_193 {l : Launch} {D : va_G} {B : Nat} {cy : Nat → ClassId} {M : Mem} {p1 : Int32} (h0 : ¬ p1 < 0) (h1 : M.1 44 1 = 0) (h2 : 0 ≤ p1) : Ci l D B cy yX11_mark cX11_mark 4 (some .boolean) 1 21 [.ref (B + 0), .int p1, .int 1, .int 1] M (fun r M1 => r = 0 ∧ M1 = M) := by
  refine s_any (by decide) (Nat.le_of_ble_eq_true rfl) ?_
  intro p e s m below meth c ls F hr hlocks w hl
  have F : CallFix p m c cX11_mark 4 s _ TB RX11 := F
  have hx := F.1
  have hb := F.2.1
  have hl : lv_has ls 4 [(0, .ref (B + 0)), (1, .int p1), (2, .int 1), (3, .int 1)] := hl
  refine lv_aload_n hx hb dX11_mark_0 rfl (lv_at hl 0 rfl) ?_
  refine f_11_4 F w (a := 0) rfl tb_75 dX11_mark_1 ?_
  refine lv_iload_n hx hb dX11_mark_4 rfl (lv_at hl 1 rfl) ?_
  refine x_Vi F w (As := [.int p1]) (rest := []) (a := 44) (by decide) (sh_9 rfl _ _) rfl (c_X9_hasSyllable_185 h0 (h1) h2) gv_X11_160 hv_X9_hasSyllable ⟨Nat.le_of_ble_eq_true rfl, Nat.le_of_ble_eq_true rfl⟩ hl.1 rfl (Nat.le_of_ble_eq_true rfl) ⟨Nat.zero_le _, Nat.zero_le _⟩ dX11_mark_5 (fun H locs w => ?_)
  refine lv_if_ne (tgt := 13) hx hb dX11_mark_8 (by decide) (fun c1 => absurd c1 (by decide)) (fun _ => ?_)
  refine lv_iconst (v := 0) hx hb dX11_mark_11 (by decide) ?_
  exact e_z F w hr hlocks (by decide) ⟨rfl, rfl⟩ dX11_mark_12
set_option maxRecDepth 4000 in
theorem c_X12_mark_194 {l : Launch} {D : va_G} {B : Nat} {cy : Nat → ClassId} {M : Mem} {p1 : Int32} (h0 : M.1 147 25 = 0) (h1 : ¬ p1 < 0) (h2 : (-1) < p1) : Ci l D B cy yX12_mark cX12_mark 4 (some .boolean) 2 43 [.ref (B + 146), .int p1, .int 1, .int 1] M (fun r M1 => r = 0 ∧ M1 = M) := by
  refine s_any (by decide) (Nat.le_of_ble_eq_true rfl) ?_
  intro p e s m below meth c ls F hr hlocks w hl
  have F : CallFix p m c cX12_mark 4 s _ TB RX12 := F
  have hx := F.1
  have hb := F.2.1
  have hl : lv_has ls 4 [(0, .ref (B + 146)), (1, .int p1), (2, .int 1), (3, .int 1)] := hl
  refine lv_aload_n hx hb dX12_mark_0 rfl (lv_at hl 0 rfl) ?_
  refine f_12_1 F w (a := 146) rfl tb_126 dX12_mark_1 ?_
  refine lv_iload_n hx hb dX12_mark_4 rfl (lv_at hl 1 rfl) ?_
  refine x_Si F w (As := [.ref (B + 147), .int p1]) (rest := []) (c_X12_isSyllable_187 (h0) h1 h2) gs_X12_94 hs_X12_isSyllable ⟨Nat.le_of_ble_eq_true rfl, Nat.le_of_ble_eq_true rfl⟩ hl.1 rfl (Nat.le_of_ble_eq_true rfl) ⟨Nat.zero_le _, Nat.zero_le _⟩ dX12_mark_5 (fun H locs w => ?_)
  refine lv_if_eq (tgt := 41) hx hb dX12_mark_8 (by decide) (fun _ => ?_) (fun c1 => absurd c1 (by decide))
  refine lv_iconst (v := 0) hx hb dX12_mark_41 (by decide) ?_
  exact e_z F w hr hlocks (by decide) ⟨rfl, rfl⟩ dX12_mark_42
set_option maxRecDepth 8000 in
theorem la_11_34 {p : Program} {l : Launch} {e : Env} {s : State} {m : MethodId} {below : List Frame} {meth : Method} {c : Code} {D : va_G} {B b : Nat} {cy : Nat → ClassId} {H : Heap} {locs : List Loc} {ls : Array Slot} {xs : Nat → Int32} {Q : State → Prop} (F : CallFix p m c code 4 s #[Value.ref b] TB RL) (hX : va_X b 6 xs s s.heap) (hbl : b < s.heap.size) (hbA : ¬ B ≤ b) (w : Wd D B cy s s.heap M0 H locs) (hl : lv_has ls 4 [(3, .int 0), (2, .ref (B + 146)), (1, .ref (B + 0)), (0, .ref b)]) (h0 : ¬ (xs 2) = 0) (h1 : ¬ (xs 3) = 0) (h2 : ¬ (xs 1) < 0) (h3 : 0 ≤ (xs 1)) (h4 : (-1) < (xs 1)) (kk : ∀ (M1 : Mem) (H1 : Heap) (locs1 : List Loc), Wd D B cy s s.heap M1 H1 locs1 → W p l e room_1 s m #[Value.ref b] below meth c H1 locs1 159 13107 Q (F0 m 1065 ls [])) : W p l e room_1 s m #[Value.ref b] below meth c H locs 159 13107 Q (F0 m 509 ls []) := by
  have hx := F.1
  have hb := F.2.1
  refine lv_aload_n hx hb dL_law_509 rfl (lv_at hl 2 rfl) ?_
  refine lv_aload_n hx hb dL_law_510 rfl (lv_at hl 3 rfl) ?_
  refine lv_iload_n hx hb dL_law_511 rfl (lv_at hl 0 rfl) ?_
  refine lv_iconst (v := 1) hx hb dL_law_512 (by decide) ?_
  refine lv_iadd hx hb dL_law_513 ?_
  refine r_val (v := 1) (by decide) ?_
  refine va_sld hx hb hX hbl hbA w.2.2.1 (vpi (by decide) (by decide)) dL_law_514 ?_
  refine r_val (v := xs 1) (congrArg xs (show (1 : Int32).toNatClampNeg = 1 by decide)) ?_
  refine lv_aload_n hx hb dL_law_515 rfl (lv_at hl 3 rfl) ?_
  refine lv_iload_n hx hb dL_law_516 rfl (lv_at hl 0 rfl) ?_
  refine lv_iconst (v := 2) hx hb dL_law_517 (by decide) ?_
  refine lv_iadd hx hb dL_law_518 ?_
  refine r_val (v := 2) (by decide) ?_
  refine va_sld hx hb hX hbl hbA w.2.2.1 (vpi (by decide) (by decide)) dL_law_519 ?_
  refine r_val (v := xs 2) (congrArg xs (show (2 : Int32).toNatClampNeg = 2 by decide)) ?_
  refine lv_if_eq (tgt := 527) hx hb dL_law_520 (by decide) (fun c1 => absurd c1 h0) (fun _ => ?_)
  refine lv_iconst (v := 1) hx hb dL_law_523 (by decide) ?_
  refine lv_goto (tgt := 528) hx hb dL_law_524 (by decide) ?_
  refine lv_aload_n hx hb dL_law_528 rfl (lv_at hl 3 rfl) ?_
  refine lv_iload_n hx hb dL_law_529 rfl (lv_at hl 0 rfl) ?_
  refine lv_iconst (v := 3) hx hb dL_law_530 (by decide) ?_
  refine lv_iadd hx hb dL_law_531 ?_
  refine r_val (v := 3) (by decide) ?_
  refine va_sld hx hb hX hbl hbA w.2.2.1 (vpi (by decide) (by decide)) dL_law_532 ?_
  refine r_val (v := xs 3) (congrArg xs (show (3 : Int32).toNatClampNeg = 3 by decide)) ?_
  refine lv_if_eq (tgt := 540) hx hb dL_law_533 (by decide) (fun c1 => absurd c1 h1) (fun _ => ?_)
  refine lv_iconst (v := 1) hx hb dL_law_536 (by decide) ?_
  refine lv_goto (tgt := 541) hx hb dL_law_537 (by decide) ?_
  refine x_Vi F w (As := [.int (xs 1), .int 1, .int 1]) (rest := []) (a := 0) (by decide) (sh_11 rfl _ _) rfl (c_X11_mark_193 h2 (rfl) h3) gv_L_65 hv_X11_mark ⟨Nat.le_of_ble_eq_true rfl, Nat.le_of_ble_eq_true rfl⟩ hl.1 rfl (Nat.le_of_ble_eq_true rfl) ⟨Nat.le_of_ble_eq_true rfl, Nat.le_of_ble_eq_true rfl⟩ dL_law_541 (fun H locs w => ?_)
  refine lv_aload_n hx hb dL_law_544 rfl (lv_at hl 1 rfl) ?_
  refine lv_aload_n hx hb dL_law_545 rfl (lv_at hl 3 rfl) ?_
  refine lv_iload_n hx hb dL_law_546 rfl (lv_at hl 0 rfl) ?_
  refine lv_iconst (v := 1) hx hb dL_law_547 (by decide) ?_
  refine lv_iadd hx hb dL_law_548 ?_
  refine r_val (v := 1) (by decide) ?_
  refine va_sld hx hb hX hbl hbA w.2.2.1 (vpi (by decide) (by decide)) dL_law_549 ?_
  refine r_val (v := xs 1) (congrArg xs (show (1 : Int32).toNatClampNeg = 1 by decide)) ?_
  refine lv_aload_n hx hb dL_law_550 rfl (lv_at hl 3 rfl) ?_
  refine lv_iload_n hx hb dL_law_551 rfl (lv_at hl 0 rfl) ?_
  refine lv_iconst (v := 2) hx hb dL_law_552 (by decide) ?_
  refine lv_iadd hx hb dL_law_553 ?_
  refine r_val (v := 2) (by decide) ?_
  refine va_sld hx hb hX hbl hbA w.2.2.1 (vpi (by decide) (by decide)) dL_law_554 ?_
  refine r_val (v := xs 2) (congrArg xs (show (2 : Int32).toNatClampNeg = 2 by decide)) ?_
  refine lv_if_eq (tgt := 562) hx hb dL_law_555 (by decide) (fun c1 => absurd c1 h0) (fun _ => ?_)
  refine lv_iconst (v := 1) hx hb dL_law_558 (by decide) ?_
  refine lv_goto (tgt := 563) hx hb dL_law_559 (by decide) ?_
  refine lv_aload_n hx hb dL_law_563 rfl (lv_at hl 3 rfl) ?_
  refine lv_iload_n hx hb dL_law_564 rfl (lv_at hl 0 rfl) ?_
  refine lv_iconst (v := 3) hx hb dL_law_565 (by decide) ?_
  refine lv_iadd hx hb dL_law_566 ?_
  refine r_val (v := 3) (by decide) ?_
  refine va_sld hx hb hX hbl hbA w.2.2.1 (vpi (by decide) (by decide)) dL_law_567 ?_
  refine r_val (v := xs 3) (congrArg xs (show (3 : Int32).toNatClampNeg = 3 by decide)) ?_
  refine lv_if_eq (tgt := 575) hx hb dL_law_568 (by decide) (fun c1 => absurd c1 h1) (fun _ => ?_)
  refine lv_iconst (v := 1) hx hb dL_law_571 (by decide) ?_
  refine lv_goto (tgt := 576) hx hb dL_law_572 (by decide) ?_
  refine x_Vi F w (As := [.int (xs 1), .int 1, .int 1]) (rest := [.int 0]) (a := 146) (by decide) (sh_12 rfl _ _) rfl (c_X12_mark_194 (rfl) h2 h4) gv_L_69 hv_X12_mark ⟨Nat.le_of_ble_eq_true rfl, Nat.le_of_ble_eq_true rfl⟩ hl.1 rfl (Nat.le_of_ble_eq_true rfl) ⟨Nat.le_of_ble_eq_true rfl, Nat.le_of_ble_eq_true rfl⟩ dL_law_576 (fun H locs w => ?_)
  refine lv_icmp_eq (tgt := 1065) hx hb dL_law_579 (by decide) (fun _ => ?_) (fun c1 => absurd c1 (by decide))
  exact kk _ _ _ w
set_option maxRecDepth 8000 in
theorem lc_11 {p : Program} {l : Launch} {e : Env} {s : State} {m : MethodId} {below : List Frame} {meth : Method} {c : Code} {D : va_G} {B b : Nat} {cy : Nat → ClassId} {H : Heap} {locs : List Loc} {ls : Array Slot} {xs : Nat → Int32} {Q : State → Prop} (F : CallFix p m c code 4 s #[Value.ref b] TB RL) (hX : va_X b 6 xs s s.heap) (hbl : b < s.heap.size) (hbA : ¬ B ≤ b) (w : Wd D B cy s s.heap M0 H locs) (hl : lv_has ls 4 [(3, .int 0), (2, .ref (B + 146)), (1, .ref (B + 0)), (0, .ref b)]) (kk : ∀ (M1 : Mem) (H1 : Heap) (locs1 : List Loc), Wd D B cy s s.heap M1 H1 locs1 → W p l e room_1 s m #[Value.ref b] below meth c H1 locs1 159 13107 Q (F0 m 1065 ls [])) : W p l e room_1 s m #[Value.ref b] below meth c H locs 159 13107 Q (F0 m 509 ls []) := by
  rcases (show (xs 1).toInt < 0 ∨ 0 ≤ (xs 1).toInt by omega) with h1 | h1
  · skip
    rcases (show (xs 2).toInt = 0 ∨ (xs 2).toInt ≠ 0 by omega) with h2 | h2
    · have x2 : xs 2 = 0 := Int32.toInt_inj.mp (h2.trans (by decide))
      rcases (show (xs 3).toInt = 0 ∨ (xs 3).toInt ≠ 0 by omega) with h3 | h3
      · have x3 : xs 3 = 0 := Int32.toInt_inj.mp (h3.trans (by decide))
        exact la_11_27 F hX hbl hbA w hl x2 x3 (by rw [Int32.lt_iff_toInt_lt, show (0 : Int32).toInt = 0 from by decide]; omega) kk
      · skip
        exact la_11_28 F hX hbl hbA w hl x2 (fun h => absurd h3 (by rw [h]; decide)) (by rw [Int32.lt_iff_toInt_lt, show (0 : Int32).toInt = 0 from by decide]; omega) kk
    · skip
      rcases (show (xs 3).toInt = 0 ∨ (xs 3).toInt ≠ 0 by omega) with h3 | h3
      · have x3 : xs 3 = 0 := Int32.toInt_inj.mp (h3.trans (by decide))
        exact la_11_29 F hX hbl hbA w hl x3 (fun h => absurd h2 (by rw [h]; decide)) (by rw [Int32.lt_iff_toInt_lt, show (0 : Int32).toInt = 0 from by decide]; omega) kk
      · skip
        exact la_11_30 F hX hbl hbA w hl (fun h => absurd h2 (by rw [h]; decide)) (fun h => absurd h3 (by rw [h]; decide)) (by rw [Int32.lt_iff_toInt_lt, show (0 : Int32).toInt = 0 from by decide]; omega) kk
  · skip
    rcases (show (xs 2).toInt = 0 ∨ (xs 2).toInt ≠ 0 by omega) with h2 | h2
    · have x2 : xs 2 = 0 := Int32.toInt_inj.mp (h2.trans (by decide))
      rcases (show (xs 3).toInt = 0 ∨ (xs 3).toInt ≠ 0 by omega) with h3 | h3
      · have x3 : xs 3 = 0 := Int32.toInt_inj.mp (h3.trans (by decide))
        exact la_11_31 F hX hbl hbA w hl x2 x3 (by rw [Int32.lt_iff_toInt_lt, show (0 : Int32).toInt = 0 from by decide]; omega) (by rw [Int32.le_iff_toInt_le, show (0 : Int32).toInt = 0 from by decide]; omega) (by rw [Int32.lt_iff_toInt_lt, show (-1 : Int32).toInt = -1 from by decide]; omega) kk
      · skip
        exact la_11_32 F hX hbl hbA w hl x2 (fun h => absurd h3 (by rw [h]; decide)) (by rw [Int32.lt_iff_toInt_lt, show (0 : Int32).toInt = 0 from by decide]; omega) (by rw [Int32.le_iff_toInt_le, show (0 : Int32).toInt = 0 from by decide]; omega) (by rw [Int32.lt_iff_toInt_lt, show (-1 : Int32).toInt = -1 from by decide]; omega) kk
    · skip
      rcases (show (xs 3).toInt = 0 ∨ (xs 3).toInt ≠ 0 by omega) with h3 | h3
      · have x3 : xs 3 = 0 := Int32.toInt_inj.mp (h3.trans (by decide))
        exact la_11_33 F hX hbl hbA w hl x3 (fun h => absurd h2 (by rw [h]; decide)) (by rw [Int32.lt_iff_toInt_lt, show (0 : Int32).toInt = 0 from by decide]; omega) (by rw [Int32.le_iff_toInt_le, show (0 : Int32).toInt = 0 from by decide]; omega) (by rw [Int32.lt_iff_toInt_lt, show (-1 : Int32).toInt = -1 from by decide]; omega) kk
      · skip
        exact la_11_34 F hX hbl hbA w hl (fun h => absurd h2 (by rw [h]; decide)) (fun h => absurd h3 (by rw [h]; decide)) (by rw [Int32.lt_iff_toInt_lt, show (0 : Int32).toInt = 0 from by decide]; omega) (by rw [Int32.le_iff_toInt_le, show (0 : Int32).toInt = 0 from by decide]; omega) (by rw [Int32.lt_iff_toInt_lt, show (-1 : Int32).toInt = -1 from by decide]; omega) kk
theorem dL_law_584 : decode cL_law 584 = .ok (.aload_n 1, 1) := by decide +kernel
theorem dL_law_585 : decode cL_law 585 = .ok (.aload_n 0, 1) := by decide +kernel
theorem dL_law_586 : decode cL_law 586 = .ok (.iload_n 3, 1) := by decide +kernel
theorem dL_law_587 : decode cL_law 587 = .ok (.iconst 1, 1) := by decide +kernel
theorem dL_law_588 : decode cL_law 588 = .ok (.iadd, 1) := by decide +kernel
theorem dL_law_589 : decode cL_law 589 = .ok (.iaload, 1) := by decide +kernel
theorem dL_law_590 : decode cL_law 590 = .ok (.invokevirtual 70, 3) := by decide +kernel
theorem dX11_does_0 : decode cX11_does 0 = .ok (.aload_n 0, 1) := by decide +kernel
theorem dX11_does_1 : decode cX11_does 1 = .ok (.getfield 35, 3) := by decide +kernel
theorem dX11_does_4 : decode cX11_does 4 = .ok (.iload_n 1, 1) := by decide +kernel
theorem dX11_does_5 : decode cX11_does 5 = .ok (.invokevirtual 173, 3) := by decide +kernel
theorem dX0_hasRule_0 : decode cX0_hasRule 0 = .ok (.iload_n 1, 1) := by decide +kernel
theorem dX0_hasRule_1 : decode cX0_hasRule 1 = .ok (.ifCond .lt 21, 3) := by decide +kernel
theorem dX0_hasRule_22 : decode cX0_hasRule 22 = .ok (.iconst 0, 1) := by decide +kernel
theorem dX0_hasRule_23 : decode cX0_hasRule 23 = .ok (.ireturn, 1) := by decide +kernel
set_option maxRecDepth 4000 in
theorem c_X0_hasRule_195 {l : Launch} {D : va_G} {B : Nat} {cy : Nat → ClassId} {M : Mem} {p1 : Int32} (h0 : p1 < 0) : Ci l D B cy yX0_hasRule cX0_hasRule 2 (some .boolean) 0 0 [.ref (B + 22), .int p1] M (fun r M1 => r = 0 ∧ M1 = M) := by
  refine s_any (by decide) (Nat.le_of_ble_eq_true rfl) ?_
  intro p e s m below meth c ls F hr hlocks w hl
  have F : CallFix p m c cX0_hasRule 2 s _ TB RX0 := F
  have hx := F.1
  have hb := F.2.1
  have hl : lv_has ls 2 [(0, .ref (B + 22)), (1, .int p1)] := hl
  refine lv_iload_n hx hb dX0_hasRule_0 rfl (lv_at hl 1 rfl) ?_
  refine lv_if_lt (tgt := 22) hx hb dX0_hasRule_1 (by decide) (fun _ => ?_) (fun c1 => absurd h0 c1)
  refine lv_iconst (v := 0) hx hb dX0_hasRule_22 (by decide) ?_
  exact e_z F w hr hlocks (by decide) ⟨rfl, rfl⟩ dX0_hasRule_23
theorem tk_X0_hasRule : Cond.code yX0_hasRule cX0_hasRule 2 (some .boolean) ∈ TB := tbm (tc3 (List.mem_of_getElem? (i := 211) rfl)) rfl
theorem gc_X0_hasRule : GoodIn TB (cw yX0_hasRule cX0_hasRule 2 (some .boolean)) := goodIn_c2 tk_X0_hasRule
theorem tb_335 : Cond.methodLink "ToneLines" 173 yX0_hasRule ∈ TB := tbm (tc3 (List.mem_of_getElem? (i := 208) rfl)) rfl
theorem tb_336 : Cond.instanceMethod yX0_hasRule ∈ TB := tbm (tc3 (List.mem_of_getElem? (i := 209) rfl)) rfl
theorem tb_337 : Cond.selects "ToneLines$Derivation" yX0_hasRule yX0_hasRule ∈ TB := tbm (tc3 (List.mem_of_getElem? (i := 210) rfl)) rfl
theorem gv_X11_173 : GoodIn TB (wsV RX11 173 RX0 yX0_hasRule (cw yX0_hasRule cX0_hasRule 2 (some .boolean))) := goodIn_4 tb_335 tb_336 tb_337 tb_43 gc_X0_hasRule
theorem hv_X0_hasRule : yX0_hasRule.cls = RX0 ∧ yX0_hasRule.cls ≠ "java/lang/invoke/MethodHandle" ∧ yX0_hasRule.cls ≠ "java/lang/invoke/VarHandle" ∧ (parseMethodDescriptor yX0_hasRule.desc).map (fun d => d.parameters.length) = some 1 := by decide +kernel
theorem dX11_does_8 : decode cX11_does 8 = .ok (.ifCond .ne 5, 3) := by decide +kernel
theorem dX11_does_11 : decode cX11_does 11 = .ok (.iconst (-1), 1) := by decide +kernel
theorem dX11_does_12 : decode cX11_does 12 = .ok (.ireturn, 1) := by decide +kernel
set_option maxRecDepth 4000 in
theorem c_X11_does_196 {l : Launch} {D : va_G} {B : Nat} {cy : Nat → ClassId} {M : Mem} {p1 : Int32} (h0 : p1 < 0) : Ci l D B cy yX11_does cX11_does 3 (some .int) 1 21 [.ref (B + 0), .int p1] M (fun r M1 => r = (-1) ∧ M1 = M) := by
  refine s_any (by decide) (Nat.le_of_ble_eq_true rfl) ?_
  intro p e s m below meth c ls F hr hlocks w hl
  have F : CallFix p m c cX11_does 3 s _ TB RX11 := F
  have hx := F.1
  have hb := F.2.1
  have hl : lv_has ls 3 [(0, .ref (B + 0)), (1, .int p1)] := hl
  refine lv_aload_n hx hb dX11_does_0 rfl (lv_at hl 0 rfl) ?_
  refine f_11_3 F w (a := 0) rfl tb_73 dX11_does_1 ?_
  refine lv_iload_n hx hb dX11_does_4 rfl (lv_at hl 1 rfl) ?_
  refine x_Vi F w (As := [.int p1]) (rest := []) (a := 22) (by decide) (sh_0 rfl _ _) rfl (c_X0_hasRule_195 h0) gv_X11_173 hv_X0_hasRule ⟨Nat.le_of_ble_eq_true rfl, Nat.le_of_ble_eq_true rfl⟩ hl.1 rfl (Nat.le_of_ble_eq_true rfl) ⟨Nat.zero_le _, Nat.zero_le _⟩ dX11_does_5 (fun H locs w => ?_)
  refine lv_if_ne (tgt := 13) hx hb dX11_does_8 (by decide) (fun c1 => absurd c1 (by decide)) (fun _ => ?_)
  refine lv_iconst (v := (-1)) hx hb dX11_does_11 (by decide) ?_
  exact e_i F w hr hlocks ⟨rfl, rfl⟩ dX11_does_12
theorem tk_X11_does : Cond.code yX11_does cX11_does 3 (some .int) ∈ TB := tbm (tc3 (List.mem_of_getElem? (i := 207) rfl)) rfl
theorem gc_X11_does : GoodIn TB (cw yX11_does cX11_does 3 (some .int)) := goodIn_c2 tk_X11_does
theorem tb_338 : Cond.methodLink "ToneLinesLaw" 70 yX11_does ∈ TB := tbm (tc3 (List.mem_of_getElem? (i := 204) rfl)) rfl
theorem tb_339 : Cond.instanceMethod yX11_does ∈ TB := tbm (tc3 (List.mem_of_getElem? (i := 205) rfl)) rfl
theorem tb_340 : Cond.selects "ToneLines" yX11_does yX11_does ∈ TB := tbm (tc3 (List.mem_of_getElem? (i := 206) rfl)) rfl
theorem gv_L_70 : GoodIn TB (wsV RL 70 RX11 yX11_does (cw yX11_does cX11_does 3 (some .int))) := goodIn_4 tb_338 tb_339 tb_340 tb_145 gc_X11_does
theorem hv_X11_does : yX11_does.cls = RX11 ∧ yX11_does.cls ≠ "java/lang/invoke/MethodHandle" ∧ yX11_does.cls ≠ "java/lang/invoke/VarHandle" ∧ (parseMethodDescriptor yX11_does.desc).map (fun d => d.parameters.length) = some 1 := by decide +kernel
theorem dL_law_593 : decode cL_law 593 = .ok (.aload_n 2, 1) := by decide +kernel
theorem dL_law_594 : decode cL_law 594 = .ok (.aload_n 0, 1) := by decide +kernel
theorem dL_law_595 : decode cL_law 595 = .ok (.iload_n 3, 1) := by decide +kernel
theorem dL_law_596 : decode cL_law 596 = .ok (.iconst 1, 1) := by decide +kernel
theorem dL_law_597 : decode cL_law 597 = .ok (.iadd, 1) := by decide +kernel
theorem dL_law_598 : decode cL_law 598 = .ok (.iaload, 1) := by decide +kernel
theorem dL_law_599 : decode cL_law 599 = .ok (.invokevirtual 73, 3) := by decide +kernel
theorem dX12_does_0 : decode cX12_does 0 = .ok (.aload_n 0, 1) := by decide +kernel
theorem dX12_does_1 : decode cX12_does 1 = .ok (.iload_n 1, 1) := by decide +kernel
theorem dX12_does_2 : decode cX12_does 2 = .ok (.invokevirtual 249, 3) := by decide +kernel
theorem dX12_isRule_0 : decode cX12_isRule 0 = .ok (.iload_n 1, 1) := by decide +kernel
theorem dX12_isRule_1 : decode cX12_isRule 1 = .ok (.iconst 0, 1) := by decide +kernel
theorem dX12_isRule_2 : decode cX12_isRule 2 = .ok (.aload_n 0, 1) := by decide +kernel
theorem dX12_isRule_3 : decode cX12_isRule 3 = .ok (.getfield 239, 3) := by decide +kernel
theorem dX12_isRule_6 : decode cX12_isRule 6 = .ok (.iconst 1, 1) := by decide +kernel
theorem dX12_isRule_7 : decode cX12_isRule 7 = .ok (.isub, 1) := by decide +kernel
theorem dX12_isRule_8 : decode cX12_isRule 8 = .ok (.invokestatic 55, 3) := by decide +kernel
theorem dX12_isRule_11 : decode cX12_isRule 11 = .ok (.ireturn, 1) := by decide +kernel
set_option maxRecDepth 4000 in
theorem c_X12_isRule_197 {l : Launch} {D : va_G} {B : Nat} {cy : Nat → ClassId} {M : Mem} {p1 : Int32} (h0 : M.1 146 5 = 0) (h1 : p1 < 0) : Ci l D B cy yX12_isRule cX12_isRule 2 (some .boolean) 1 22 [.ref (B + 146), .int p1] M (fun r M1 => r = 0 ∧ M1 = M) := by
  refine s_any (by decide) (Nat.le_of_ble_eq_true rfl) ?_
  intro p e s m below meth c ls F hr hlocks w hl
  have F : CallFix p m c cX12_isRule 2 s _ TB RX12 := F
  have hx := F.1
  have hb := F.2.1
  have hl : lv_has ls 2 [(0, .ref (B + 146)), (1, .int p1)] := hl
  refine lv_iload_n hx hb dX12_isRule_0 rfl (lv_at hl 1 rfl) ?_
  refine lv_iconst (v := 0) hx hb dX12_isRule_1 (by decide) ?_
  refine lv_aload_n hx hb dX12_isRule_2 rfl (lv_at hl 0 rfl) ?_
  refine f_12_5 F w (a := 146) rfl tb_227 dX12_isRule_3 ?_
  refine r_val (v := 0) (h0) ?_
  refine lv_iconst (v := 1) hx hb dX12_isRule_6 (by decide) ?_
  refine lv_isub hx hb dX12_isRule_7 ?_
  refine r_val (v := (-1)) (by decide) ?_
  refine x_Si F w (As := [.int p1, .int 0, .int (-1)]) (rest := []) (c_X12_in_95 h1) gs_X12_55 hs_X12_in ⟨Nat.le_of_ble_eq_true rfl, Nat.le_of_ble_eq_true rfl⟩ hl.1 rfl (Nat.le_of_ble_eq_true rfl) ⟨Nat.zero_le _, Nat.zero_le _⟩ dX12_isRule_8 (fun H locs w => ?_)
  exact e_z F w hr hlocks (by decide) ⟨rfl, rfl⟩ dX12_isRule_11
theorem tk_X12_isRule : Cond.code yX12_isRule cX12_isRule 2 (some .boolean) ∈ TB := tbm (tc6 (List.mem_of_getElem? (i := 52) rfl)) rfl
theorem gc_X12_isRule : GoodIn TB (cw yX12_isRule cX12_isRule 2 (some .boolean)) := goodIn_c2 tk_X12_isRule
theorem tb_341 : Cond.methodLink "ToneLinesModel" 249 yX12_isRule ∈ TB := tbm (tc6 (List.mem_of_getElem? (i := 49) rfl)) rfl
theorem tb_342 : Cond.instanceMethod yX12_isRule ∈ TB := tbm (tc6 (List.mem_of_getElem? (i := 51) rfl)) rfl
theorem tb_343 : Cond.selects "ToneLinesModel" yX12_isRule yX12_isRule ∈ TB := tbp (List.mem_of_getElem? (i := 52) rfl) rfl
theorem gv_X12_249 : GoodIn TB (wsV RX12 249 RX12 yX12_isRule (cw yX12_isRule cX12_isRule 2 (some .boolean))) := goodIn_4 tb_341 tb_342 tb_343 tb_150 gc_X12_isRule
theorem hv_X12_isRule : yX12_isRule.cls = RX12 ∧ yX12_isRule.cls ≠ "java/lang/invoke/MethodHandle" ∧ yX12_isRule.cls ≠ "java/lang/invoke/VarHandle" ∧ (parseMethodDescriptor yX12_isRule.desc).map (fun d => d.parameters.length) = some 1 := by decide +kernel
theorem dX12_does_5 : decode cX12_does 5 = .ok (.ifCond .ne 5, 3) := by decide +kernel
theorem dX12_does_8 : decode cX12_does 8 = .ok (.iconst (-1), 1) := by decide +kernel
theorem dX12_does_9 : decode cX12_does 9 = .ok (.ireturn, 1) := by decide +kernel
set_option maxRecDepth 4000 in
theorem c_X12_does_198 {l : Launch} {D : va_G} {B : Nat} {cy : Nat → ClassId} {M : Mem} {p1 : Int32} (h0 : M.1 146 5 = 0) (h1 : p1 < 0) : Ci l D B cy yX12_does cX12_does 2 (some .int) 2 43 [.ref (B + 146), .int p1] M (fun r M1 => r = (-1) ∧ M1 = M) := by
  refine s_any (by decide) (Nat.le_of_ble_eq_true rfl) ?_
  intro p e s m below meth c ls F hr hlocks w hl
  have F : CallFix p m c cX12_does 2 s _ TB RX12 := F
  have hx := F.1
  have hb := F.2.1
  have hl : lv_has ls 2 [(0, .ref (B + 146)), (1, .int p1)] := hl
  refine lv_aload_n hx hb dX12_does_0 rfl (lv_at hl 0 rfl) ?_
  refine lv_iload_n hx hb dX12_does_1 rfl (lv_at hl 1 rfl) ?_
  refine x_Vi F w (As := [.int p1]) (rest := []) (a := 146) (by decide) (sh_12 rfl _ _) rfl (c_X12_isRule_197 (h0) h1) gv_X12_249 hv_X12_isRule ⟨Nat.le_of_ble_eq_true rfl, Nat.le_of_ble_eq_true rfl⟩ hl.1 rfl (Nat.le_of_ble_eq_true rfl) ⟨Nat.zero_le _, Nat.zero_le _⟩ dX12_does_2 (fun H locs w => ?_)
  refine lv_if_ne (tgt := 10) hx hb dX12_does_5 (by decide) (fun c1 => absurd c1 (by decide)) (fun _ => ?_)
  refine lv_iconst (v := (-1)) hx hb dX12_does_8 (by decide) ?_
  exact e_i F w hr hlocks ⟨rfl, rfl⟩ dX12_does_9
theorem tk_X12_does : Cond.code yX12_does cX12_does 2 (some .int) ∈ TB := tbm (tc6 (List.mem_of_getElem? (i := 48) rfl)) rfl
theorem gc_X12_does : GoodIn TB (cw yX12_does cX12_does 2 (some .int)) := goodIn_c2 tk_X12_does
theorem tb_344 : Cond.methodLink "ToneLinesLaw" 73 yX12_does ∈ TB := tbm (tc6 (List.mem_of_getElem? (i := 45) rfl)) rfl
theorem tb_345 : Cond.instanceMethod yX12_does ∈ TB := tbm (tc6 (List.mem_of_getElem? (i := 46) rfl)) rfl
theorem tb_346 : Cond.selects "ToneLinesModel" yX12_does yX12_does ∈ TB := tbm (tc6 (List.mem_of_getElem? (i := 47) rfl)) rfl
theorem gv_L_73 : GoodIn TB (wsV RL 73 RX12 yX12_does (cw yX12_does cX12_does 2 (some .int))) := goodIn_4 tb_344 tb_345 tb_346 tb_150 gc_X12_does
theorem hv_X12_does : yX12_does.cls = RX12 ∧ yX12_does.cls ≠ "java/lang/invoke/MethodHandle" ∧ yX12_does.cls ≠ "java/lang/invoke/VarHandle" ∧ (parseMethodDescriptor yX12_does.desc).map (fun d => d.parameters.length) = some 1 := by decide +kernel
theorem dL_law_602 : decode cL_law 602 = .ok (.if_icmp .eq 463, 3) := by decide +kernel
set_option maxRecDepth 8000 in
theorem la_12_35 {p : Program} {l : Launch} {e : Env} {s : State} {m : MethodId} {below : List Frame} {meth : Method} {c : Code} {D : va_G} {B b : Nat} {cy : Nat → ClassId} {H : Heap} {locs : List Loc} {ls : Array Slot} {xs : Nat → Int32} {Q : State → Prop} (F : CallFix p m c code 4 s #[Value.ref b] TB RL) (hX : va_X b 6 xs s s.heap) (hbl : b < s.heap.size) (hbA : ¬ B ≤ b) (w : Wd D B cy s s.heap M0 H locs) (hl : lv_has ls 4 [(3, .int 0), (2, .ref (B + 146)), (1, .ref (B + 0)), (0, .ref b)]) (h0 : (xs 1) < 0) (kk : ∀ (M1 : Mem) (H1 : Heap) (locs1 : List Loc), Wd D B cy s s.heap M1 H1 locs1 → W p l e room_1 s m #[Value.ref b] below meth c H1 locs1 159 13107 Q (F0 m 1065 ls [])) : W p l e room_1 s m #[Value.ref b] below meth c H locs 159 13107 Q (F0 m 584 ls []) := by
  have hx := F.1
  have hb := F.2.1
  refine lv_aload_n hx hb dL_law_584 rfl (lv_at hl 2 rfl) ?_
  refine lv_aload_n hx hb dL_law_585 rfl (lv_at hl 3 rfl) ?_
  refine lv_iload_n hx hb dL_law_586 rfl (lv_at hl 0 rfl) ?_
  refine lv_iconst (v := 1) hx hb dL_law_587 (by decide) ?_
  refine lv_iadd hx hb dL_law_588 ?_
  refine r_val (v := 1) (by decide) ?_
  refine va_sld hx hb hX hbl hbA w.2.2.1 (vpi (by decide) (by decide)) dL_law_589 ?_
  refine r_val (v := xs 1) (congrArg xs (show (1 : Int32).toNatClampNeg = 1 by decide)) ?_
  refine x_Vi F w (As := [.int (xs 1)]) (rest := []) (a := 0) (by decide) (sh_11 rfl _ _) rfl (c_X11_does_196 h0) gv_L_70 hv_X11_does ⟨Nat.le_of_ble_eq_true rfl, Nat.le_of_ble_eq_true rfl⟩ hl.1 rfl (Nat.le_of_ble_eq_true rfl) ⟨Nat.le_of_ble_eq_true rfl, Nat.le_of_ble_eq_true rfl⟩ dL_law_590 (fun H locs w => ?_)
  refine lv_aload_n hx hb dL_law_593 rfl (lv_at hl 1 rfl) ?_
  refine lv_aload_n hx hb dL_law_594 rfl (lv_at hl 3 rfl) ?_
  refine lv_iload_n hx hb dL_law_595 rfl (lv_at hl 0 rfl) ?_
  refine lv_iconst (v := 1) hx hb dL_law_596 (by decide) ?_
  refine lv_iadd hx hb dL_law_597 ?_
  refine r_val (v := 1) (by decide) ?_
  refine va_sld hx hb hX hbl hbA w.2.2.1 (vpi (by decide) (by decide)) dL_law_598 ?_
  refine r_val (v := xs 1) (congrArg xs (show (1 : Int32).toNatClampNeg = 1 by decide)) ?_
  refine x_Vi F w (As := [.int (xs 1)]) (rest := [.int (-1)]) (a := 146) (by decide) (sh_12 rfl _ _) rfl (c_X12_does_198 (rfl) h0) gv_L_73 hv_X12_does ⟨Nat.le_of_ble_eq_true rfl, Nat.le_of_ble_eq_true rfl⟩ hl.1 rfl (Nat.le_of_ble_eq_true rfl) ⟨Nat.le_of_ble_eq_true rfl, Nat.le_of_ble_eq_true rfl⟩ dL_law_599 (fun H locs w => ?_)
  refine lv_icmp_eq (tgt := 1065) hx hb dL_law_602 (by decide) (fun _ => ?_) (fun c1 => absurd c1 (by decide))
  exact kk _ _ _ w
theorem dX0_hasRule_4 : decode cX0_hasRule 4 = .ok (.iload_n 1, 1) := by decide +kernel
theorem dX0_hasRule_5 : decode cX0_hasRule 5 = .ok (.aload_n 0, 1) := by decide +kernel
theorem dX0_hasRule_6 : decode cX0_hasRule 6 = .ok (.getfield 24, 3) := by decide +kernel
theorem dX0_hasRule_9 : decode cX0_hasRule 9 = .ok (.if_icmp .ge 13, 3) := by decide +kernel
set_option maxRecDepth 4000 in
theorem c_X0_hasRule_199 {l : Launch} {D : va_G} {B : Nat} {cy : Nat → ClassId} {M : Mem} {p1 : Int32} (h0 : ¬ p1 < 0) (h1 : M.1 22 2 = 0) (h2 : 0 ≤ p1) : Ci l D B cy yX0_hasRule cX0_hasRule 2 (some .boolean) 0 0 [.ref (B + 22), .int p1] M (fun r M1 => r = 0 ∧ M1 = M) := by
  refine s_any (by decide) (Nat.le_of_ble_eq_true rfl) ?_
  intro p e s m below meth c ls F hr hlocks w hl
  have F : CallFix p m c cX0_hasRule 2 s _ TB RX0 := F
  have hx := F.1
  have hb := F.2.1
  have hl : lv_has ls 2 [(0, .ref (B + 22)), (1, .int p1)] := hl
  refine lv_iload_n hx hb dX0_hasRule_0 rfl (lv_at hl 1 rfl) ?_
  refine lv_if_lt (tgt := 22) hx hb dX0_hasRule_1 (by decide) (fun c1 => absurd c1 h0) (fun _ => ?_)
  refine lv_iload_n hx hb dX0_hasRule_4 rfl (lv_at hl 1 rfl) ?_
  refine lv_aload_n hx hb dX0_hasRule_5 rfl (lv_at hl 0 rfl) ?_
  refine f_0_2 F w (a := 22) rfl tb_54 dX0_hasRule_6 ?_
  refine r_val (v := 0) (h1) ?_
  refine lv_icmp_ge (tgt := 22) hx hb dX0_hasRule_9 (by decide) (fun _ => ?_) (fun c1 => absurd h2 c1)
  refine lv_iconst (v := 0) hx hb dX0_hasRule_22 (by decide) ?_
  exact e_z F w hr hlocks (by decide) ⟨rfl, rfl⟩ dX0_hasRule_23
set_option maxRecDepth 4000 in
theorem c_X11_does_200 {l : Launch} {D : va_G} {B : Nat} {cy : Nat → ClassId} {M : Mem} {p1 : Int32} (h0 : ¬ p1 < 0) (h1 : M.1 22 2 = 0) (h2 : 0 ≤ p1) : Ci l D B cy yX11_does cX11_does 3 (some .int) 1 21 [.ref (B + 0), .int p1] M (fun r M1 => r = (-1) ∧ M1 = M) := by
  refine s_any (by decide) (Nat.le_of_ble_eq_true rfl) ?_
  intro p e s m below meth c ls F hr hlocks w hl
  have F : CallFix p m c cX11_does 3 s _ TB RX11 := F
  have hx := F.1
  have hb := F.2.1
  have hl : lv_has ls 3 [(0, .ref (B + 0)), (1, .int p1)] := hl
  refine lv_aload_n hx hb dX11_does_0 rfl (lv_at hl 0 rfl) ?_
  refine f_11_3 F w (a := 0) rfl tb_73 dX11_does_1 ?_
  refine lv_iload_n hx hb dX11_does_4 rfl (lv_at hl 1 rfl) ?_
  refine x_Vi F w (As := [.int p1]) (rest := []) (a := 22) (by decide) (sh_0 rfl _ _) rfl (c_X0_hasRule_199 h0 (h1) h2) gv_X11_173 hv_X0_hasRule ⟨Nat.le_of_ble_eq_true rfl, Nat.le_of_ble_eq_true rfl⟩ hl.1 rfl (Nat.le_of_ble_eq_true rfl) ⟨Nat.zero_le _, Nat.zero_le _⟩ dX11_does_5 (fun H locs w => ?_)
  refine lv_if_ne (tgt := 13) hx hb dX11_does_8 (by decide) (fun c1 => absurd c1 (by decide)) (fun _ => ?_)
  refine lv_iconst (v := (-1)) hx hb dX11_does_11 (by decide) ?_
  exact e_i F w hr hlocks ⟨rfl, rfl⟩ dX11_does_12
set_option maxRecDepth 4000 in
theorem c_X12_isRule_201 {l : Launch} {D : va_G} {B : Nat} {cy : Nat → ClassId} {M : Mem} {p1 : Int32} (h0 : M.1 146 5 = 0) (h1 : ¬ p1 < 0) (h2 : (-1) < p1) : Ci l D B cy yX12_isRule cX12_isRule 2 (some .boolean) 1 22 [.ref (B + 146), .int p1] M (fun r M1 => r = 0 ∧ M1 = M) := by
  refine s_any (by decide) (Nat.le_of_ble_eq_true rfl) ?_
  intro p e s m below meth c ls F hr hlocks w hl
  have F : CallFix p m c cX12_isRule 2 s _ TB RX12 := F
  have hx := F.1
  have hb := F.2.1
  have hl : lv_has ls 2 [(0, .ref (B + 146)), (1, .int p1)] := hl
  refine lv_iload_n hx hb dX12_isRule_0 rfl (lv_at hl 1 rfl) ?_
  refine lv_iconst (v := 0) hx hb dX12_isRule_1 (by decide) ?_
  refine lv_aload_n hx hb dX12_isRule_2 rfl (lv_at hl 0 rfl) ?_
  refine f_12_5 F w (a := 146) rfl tb_227 dX12_isRule_3 ?_
  refine r_val (v := 0) (h0) ?_
  refine lv_iconst (v := 1) hx hb dX12_isRule_6 (by decide) ?_
  refine lv_isub hx hb dX12_isRule_7 ?_
  refine r_val (v := (-1)) (by decide) ?_
  refine x_Si F w (As := [.int p1, .int 0, .int (-1)]) (rest := []) (c_X12_in_101 h1 h2) gs_X12_55 hs_X12_in ⟨Nat.le_of_ble_eq_true rfl, Nat.le_of_ble_eq_true rfl⟩ hl.1 rfl (Nat.le_of_ble_eq_true rfl) ⟨Nat.zero_le _, Nat.zero_le _⟩ dX12_isRule_8 (fun H locs w => ?_)
  exact e_z F w hr hlocks (by decide) ⟨rfl, rfl⟩ dX12_isRule_11
set_option maxRecDepth 4000 in
theorem c_X12_does_202 {l : Launch} {D : va_G} {B : Nat} {cy : Nat → ClassId} {M : Mem} {p1 : Int32} (h0 : M.1 146 5 = 0) (h1 : ¬ p1 < 0) (h2 : (-1) < p1) : Ci l D B cy yX12_does cX12_does 2 (some .int) 2 43 [.ref (B + 146), .int p1] M (fun r M1 => r = (-1) ∧ M1 = M) := by
  refine s_any (by decide) (Nat.le_of_ble_eq_true rfl) ?_
  intro p e s m below meth c ls F hr hlocks w hl
  have F : CallFix p m c cX12_does 2 s _ TB RX12 := F
  have hx := F.1
  have hb := F.2.1
  have hl : lv_has ls 2 [(0, .ref (B + 146)), (1, .int p1)] := hl
  refine lv_aload_n hx hb dX12_does_0 rfl (lv_at hl 0 rfl) ?_
  refine lv_iload_n hx hb dX12_does_1 rfl (lv_at hl 1 rfl) ?_
  refine x_Vi F w (As := [.int p1]) (rest := []) (a := 146) (by decide) (sh_12 rfl _ _) rfl (c_X12_isRule_201 (h0) h1 h2) gv_X12_249 hv_X12_isRule ⟨Nat.le_of_ble_eq_true rfl, Nat.le_of_ble_eq_true rfl⟩ hl.1 rfl (Nat.le_of_ble_eq_true rfl) ⟨Nat.zero_le _, Nat.zero_le _⟩ dX12_does_2 (fun H locs w => ?_)
  refine lv_if_ne (tgt := 10) hx hb dX12_does_5 (by decide) (fun c1 => absurd c1 (by decide)) (fun _ => ?_)
  refine lv_iconst (v := (-1)) hx hb dX12_does_8 (by decide) ?_
  exact e_i F w hr hlocks ⟨rfl, rfl⟩ dX12_does_9
set_option maxRecDepth 8000 in
theorem la_12_36 {p : Program} {l : Launch} {e : Env} {s : State} {m : MethodId} {below : List Frame} {meth : Method} {c : Code} {D : va_G} {B b : Nat} {cy : Nat → ClassId} {H : Heap} {locs : List Loc} {ls : Array Slot} {xs : Nat → Int32} {Q : State → Prop} (F : CallFix p m c code 4 s #[Value.ref b] TB RL) (hX : va_X b 6 xs s s.heap) (hbl : b < s.heap.size) (hbA : ¬ B ≤ b) (w : Wd D B cy s s.heap M0 H locs) (hl : lv_has ls 4 [(3, .int 0), (2, .ref (B + 146)), (1, .ref (B + 0)), (0, .ref b)]) (h0 : ¬ (xs 1) < 0) (h1 : 0 ≤ (xs 1)) (h2 : (-1) < (xs 1)) (kk : ∀ (M1 : Mem) (H1 : Heap) (locs1 : List Loc), Wd D B cy s s.heap M1 H1 locs1 → W p l e room_1 s m #[Value.ref b] below meth c H1 locs1 159 13107 Q (F0 m 1065 ls [])) : W p l e room_1 s m #[Value.ref b] below meth c H locs 159 13107 Q (F0 m 584 ls []) := by
  have hx := F.1
  have hb := F.2.1
  refine lv_aload_n hx hb dL_law_584 rfl (lv_at hl 2 rfl) ?_
  refine lv_aload_n hx hb dL_law_585 rfl (lv_at hl 3 rfl) ?_
  refine lv_iload_n hx hb dL_law_586 rfl (lv_at hl 0 rfl) ?_
  refine lv_iconst (v := 1) hx hb dL_law_587 (by decide) ?_
  refine lv_iadd hx hb dL_law_588 ?_
  refine r_val (v := 1) (by decide) ?_
  refine va_sld hx hb hX hbl hbA w.2.2.1 (vpi (by decide) (by decide)) dL_law_589 ?_
  refine r_val (v := xs 1) (congrArg xs (show (1 : Int32).toNatClampNeg = 1 by decide)) ?_
  refine x_Vi F w (As := [.int (xs 1)]) (rest := []) (a := 0) (by decide) (sh_11 rfl _ _) rfl (c_X11_does_200 h0 (rfl) h1) gv_L_70 hv_X11_does ⟨Nat.le_of_ble_eq_true rfl, Nat.le_of_ble_eq_true rfl⟩ hl.1 rfl (Nat.le_of_ble_eq_true rfl) ⟨Nat.le_of_ble_eq_true rfl, Nat.le_of_ble_eq_true rfl⟩ dL_law_590 (fun H locs w => ?_)
  refine lv_aload_n hx hb dL_law_593 rfl (lv_at hl 1 rfl) ?_
  refine lv_aload_n hx hb dL_law_594 rfl (lv_at hl 3 rfl) ?_
  refine lv_iload_n hx hb dL_law_595 rfl (lv_at hl 0 rfl) ?_
  refine lv_iconst (v := 1) hx hb dL_law_596 (by decide) ?_
  refine lv_iadd hx hb dL_law_597 ?_
  refine r_val (v := 1) (by decide) ?_
  refine va_sld hx hb hX hbl hbA w.2.2.1 (vpi (by decide) (by decide)) dL_law_598 ?_
  refine r_val (v := xs 1) (congrArg xs (show (1 : Int32).toNatClampNeg = 1 by decide)) ?_
  refine x_Vi F w (As := [.int (xs 1)]) (rest := [.int (-1)]) (a := 146) (by decide) (sh_12 rfl _ _) rfl (c_X12_does_202 (rfl) h0 h2) gv_L_73 hv_X12_does ⟨Nat.le_of_ble_eq_true rfl, Nat.le_of_ble_eq_true rfl⟩ hl.1 rfl (Nat.le_of_ble_eq_true rfl) ⟨Nat.le_of_ble_eq_true rfl, Nat.le_of_ble_eq_true rfl⟩ dL_law_599 (fun H locs w => ?_)
  refine lv_icmp_eq (tgt := 1065) hx hb dL_law_602 (by decide) (fun _ => ?_) (fun c1 => absurd c1 (by decide))
  exact kk _ _ _ w
set_option maxRecDepth 8000 in
theorem lc_12 {p : Program} {l : Launch} {e : Env} {s : State} {m : MethodId} {below : List Frame} {meth : Method} {c : Code} {D : va_G} {B b : Nat} {cy : Nat → ClassId} {H : Heap} {locs : List Loc} {ls : Array Slot} {xs : Nat → Int32} {Q : State → Prop} (F : CallFix p m c code 4 s #[Value.ref b] TB RL) (hX : va_X b 6 xs s s.heap) (hbl : b < s.heap.size) (hbA : ¬ B ≤ b) (w : Wd D B cy s s.heap M0 H locs) (hl : lv_has ls 4 [(3, .int 0), (2, .ref (B + 146)), (1, .ref (B + 0)), (0, .ref b)]) (kk : ∀ (M1 : Mem) (H1 : Heap) (locs1 : List Loc), Wd D B cy s s.heap M1 H1 locs1 → W p l e room_1 s m #[Value.ref b] below meth c H1 locs1 159 13107 Q (F0 m 1065 ls [])) : W p l e room_1 s m #[Value.ref b] below meth c H locs 159 13107 Q (F0 m 584 ls []) := by
  rcases (show (xs 1).toInt < 0 ∨ 0 ≤ (xs 1).toInt by omega) with h1 | h1
  · skip
    exact la_12_35 F hX hbl hbA w hl (by rw [Int32.lt_iff_toInt_lt, show (0 : Int32).toInt = 0 from by decide]; omega) kk
  · skip
    exact la_12_36 F hX hbl hbA w hl (by rw [Int32.lt_iff_toInt_lt, show (0 : Int32).toInt = 0 from by decide]; omega) (by rw [Int32.le_iff_toInt_le, show (0 : Int32).toInt = 0 from by decide]; omega) (by rw [Int32.lt_iff_toInt_lt, show (-1 : Int32).toInt = -1 from by decide]; omega) kk
theorem dL_law_607 : decode cL_law 607 = .ok (.aload_n 1, 1) := by decide +kernel
theorem dL_law_608 : decode cL_law 608 = .ok (.aload_n 0, 1) := by decide +kernel
theorem dL_law_609 : decode cL_law 609 = .ok (.iload_n 3, 1) := by decide +kernel
theorem dL_law_610 : decode cL_law 610 = .ok (.iconst 1, 1) := by decide +kernel
theorem dL_law_611 : decode cL_law 611 = .ok (.iadd, 1) := by decide +kernel
theorem dL_law_612 : decode cL_law 612 = .ok (.iaload, 1) := by decide +kernel
theorem dL_law_613 : decode cL_law 613 = .ok (.invokevirtual 74, 3) := by decide +kernel
theorem dX11_derive_0 : decode cX11_derive 0 = .ok (.aload_n 0, 1) := by decide +kernel
theorem dX11_derive_1 : decode cX11_derive 1 = .ok (.getfield 35, 3) := by decide +kernel
theorem dX11_derive_4 : decode cX11_derive 4 = .ok (.iload_n 1, 1) := by decide +kernel
theorem dX11_derive_5 : decode cX11_derive 5 = .ok (.invokevirtual 193, 3) := by decide +kernel
theorem dX0_covers_0 : decode cX0_covers 0 = .ok (.iload_n 1, 1) := by decide +kernel
theorem dX0_covers_1 : decode cX0_covers 1 = .ok (.ifCond .lt 15, 3) := by decide +kernel
theorem dX0_covers_16 : decode cX0_covers 16 = .ok (.iconst 0, 1) := by decide +kernel
theorem dX0_covers_17 : decode cX0_covers 17 = .ok (.ireturn, 1) := by decide +kernel
set_option maxRecDepth 4000 in
theorem c_X0_covers_203 {l : Launch} {D : va_G} {B : Nat} {cy : Nat → ClassId} {M : Mem} {p1 : Int32} (h0 : p1 < 0) : Ci l D B cy yX0_covers cX0_covers 2 (some .boolean) 0 0 [.ref (B + 22), .int p1] M (fun r M1 => r = 0 ∧ M1 = M) := by
  refine s_any (by decide) (Nat.le_of_ble_eq_true rfl) ?_
  intro p e s m below meth c ls F hr hlocks w hl
  have F : CallFix p m c cX0_covers 2 s _ TB RX0 := F
  have hx := F.1
  have hb := F.2.1
  have hl : lv_has ls 2 [(0, .ref (B + 22)), (1, .int p1)] := hl
  refine lv_iload_n hx hb dX0_covers_0 rfl (lv_at hl 1 rfl) ?_
  refine lv_if_lt (tgt := 16) hx hb dX0_covers_1 (by decide) (fun _ => ?_) (fun c1 => absurd h0 c1)
  refine lv_iconst (v := 0) hx hb dX0_covers_16 (by decide) ?_
  exact e_z F w hr hlocks (by decide) ⟨rfl, rfl⟩ dX0_covers_17
theorem tk_X0_covers : Cond.code yX0_covers cX0_covers 2 (some .boolean) ∈ TB := tbm (tc4 (List.mem_of_getElem? (i := 101) rfl)) rfl
theorem gc_X0_covers : GoodIn TB (cw yX0_covers cX0_covers 2 (some .boolean)) := goodIn_c2 tk_X0_covers
theorem tb_347 : Cond.methodLink "ToneLines" 193 yX0_covers ∈ TB := tbm (tc4 (List.mem_of_getElem? (i := 98) rfl)) rfl
theorem tb_348 : Cond.instanceMethod yX0_covers ∈ TB := tbm (tc4 (List.mem_of_getElem? (i := 99) rfl)) rfl
theorem tb_349 : Cond.selects "ToneLines$Derivation" yX0_covers yX0_covers ∈ TB := tbm (tc4 (List.mem_of_getElem? (i := 100) rfl)) rfl
theorem gv_X11_193 : GoodIn TB (wsV RX11 193 RX0 yX0_covers (cw yX0_covers cX0_covers 2 (some .boolean))) := goodIn_4 tb_347 tb_348 tb_349 tb_43 gc_X0_covers
theorem hv_X0_covers : yX0_covers.cls = RX0 ∧ yX0_covers.cls ≠ "java/lang/invoke/MethodHandle" ∧ yX0_covers.cls ≠ "java/lang/invoke/VarHandle" ∧ (parseMethodDescriptor yX0_covers.desc).map (fun d => d.parameters.length) = some 1 := by decide +kernel
theorem dX11_derive_8 : decode cX11_derive 8 = .ok (.ifCond .ne 5, 3) := by decide +kernel
theorem dX11_derive_11 : decode cX11_derive 11 = .ok (.iconst (-1), 1) := by decide +kernel
theorem dX11_derive_12 : decode cX11_derive 12 = .ok (.ireturn, 1) := by decide +kernel
set_option maxRecDepth 4000 in
theorem c_X11_derive_204 {l : Launch} {D : va_G} {B : Nat} {cy : Nat → ClassId} {M : Mem} {p1 : Int32} (h0 : p1 < 0) : Ci l D B cy yX11_derive cX11_derive 4 (some .int) 1 21 [.ref (B + 0), .int p1] M (fun r M1 => r = (-1) ∧ M1 = M) := by
  refine s_any (by decide) (Nat.le_of_ble_eq_true rfl) ?_
  intro p e s m below meth c ls F hr hlocks w hl
  have F : CallFix p m c cX11_derive 4 s _ TB RX11 := F
  have hx := F.1
  have hb := F.2.1
  have hl : lv_has ls 4 [(0, .ref (B + 0)), (1, .int p1)] := hl
  refine lv_aload_n hx hb dX11_derive_0 rfl (lv_at hl 0 rfl) ?_
  refine f_11_3 F w (a := 0) rfl tb_73 dX11_derive_1 ?_
  refine lv_iload_n hx hb dX11_derive_4 rfl (lv_at hl 1 rfl) ?_
  refine x_Vi F w (As := [.int p1]) (rest := []) (a := 22) (by decide) (sh_0 rfl _ _) rfl (c_X0_covers_203 h0) gv_X11_193 hv_X0_covers ⟨Nat.le_of_ble_eq_true rfl, Nat.le_of_ble_eq_true rfl⟩ hl.1 rfl (Nat.le_of_ble_eq_true rfl) ⟨Nat.zero_le _, Nat.zero_le _⟩ dX11_derive_5 (fun H locs w => ?_)
  refine lv_if_ne (tgt := 13) hx hb dX11_derive_8 (by decide) (fun c1 => absurd c1 (by decide)) (fun _ => ?_)
  refine lv_iconst (v := (-1)) hx hb dX11_derive_11 (by decide) ?_
  exact e_i F w hr hlocks ⟨rfl, rfl⟩ dX11_derive_12
theorem tk_X11_derive : Cond.code yX11_derive cX11_derive 4 (some .int) ∈ TB := tbm (tc4 (List.mem_of_getElem? (i := 97) rfl)) rfl
theorem gc_X11_derive : GoodIn TB (cw yX11_derive cX11_derive 4 (some .int)) := goodIn_c2 tk_X11_derive
theorem tb_350 : Cond.methodLink "ToneLinesLaw" 74 yX11_derive ∈ TB := tbm (tc4 (List.mem_of_getElem? (i := 94) rfl)) rfl
theorem tb_351 : Cond.instanceMethod yX11_derive ∈ TB := tbm (tc4 (List.mem_of_getElem? (i := 95) rfl)) rfl
theorem tb_352 : Cond.selects "ToneLines" yX11_derive yX11_derive ∈ TB := tbm (tc4 (List.mem_of_getElem? (i := 96) rfl)) rfl
theorem gv_L_74 : GoodIn TB (wsV RL 74 RX11 yX11_derive (cw yX11_derive cX11_derive 4 (some .int))) := goodIn_4 tb_350 tb_351 tb_352 tb_145 gc_X11_derive
theorem hv_X11_derive : yX11_derive.cls = RX11 ∧ yX11_derive.cls ≠ "java/lang/invoke/MethodHandle" ∧ yX11_derive.cls ≠ "java/lang/invoke/VarHandle" ∧ (parseMethodDescriptor yX11_derive.desc).map (fun d => d.parameters.length) = some 1 := by decide +kernel
theorem dL_law_616 : decode cL_law 616 = .ok (.aload_n 2, 1) := by decide +kernel
theorem dL_law_617 : decode cL_law 617 = .ok (.aload_n 0, 1) := by decide +kernel
theorem dL_law_618 : decode cL_law 618 = .ok (.iload_n 3, 1) := by decide +kernel
theorem dL_law_619 : decode cL_law 619 = .ok (.iconst 1, 1) := by decide +kernel
theorem dL_law_620 : decode cL_law 620 = .ok (.iadd, 1) := by decide +kernel
theorem dL_law_621 : decode cL_law 621 = .ok (.iaload, 1) := by decide +kernel
theorem dL_law_622 : decode cL_law 622 = .ok (.invokevirtual 77, 3) := by decide +kernel
theorem dX12_derive_0 : decode cX12_derive 0 = .ok (.iload_n 1, 1) := by decide +kernel
theorem dX12_derive_1 : decode cX12_derive 1 = .ok (.iconst 0, 1) := by decide +kernel
theorem dX12_derive_2 : decode cX12_derive 2 = .ok (.aload_n 0, 1) := by decide +kernel
theorem dX12_derive_3 : decode cX12_derive 3 = .ok (.getfield 239, 3) := by decide +kernel
theorem dX12_derive_6 : decode cX12_derive 6 = .ok (.invokestatic 55, 3) := by decide +kernel
theorem dX12_derive_9 : decode cX12_derive 9 = .ok (.ifCond .eq 15, 3) := by decide +kernel
theorem dX12_derive_24 : decode cX12_derive 24 = .ok (.iconst (-1), 1) := by decide +kernel
theorem dX12_derive_25 : decode cX12_derive 25 = .ok (.ireturn, 1) := by decide +kernel
set_option maxRecDepth 4000 in
theorem c_X12_derive_205 {l : Launch} {D : va_G} {B : Nat} {cy : Nat → ClassId} {M : Mem} {p1 : Int32} (h0 : M.1 146 5 = 0) (h1 : p1 < 0) : Ci l D B cy yX12_derive cX12_derive 2 (some .int) 1 22 [.ref (B + 146), .int p1] M (fun r M1 => r = (-1) ∧ M1 = M) := by
  refine s_any (by decide) (Nat.le_of_ble_eq_true rfl) ?_
  intro p e s m below meth c ls F hr hlocks w hl
  have F : CallFix p m c cX12_derive 2 s _ TB RX12 := F
  have hx := F.1
  have hb := F.2.1
  have hl : lv_has ls 2 [(0, .ref (B + 146)), (1, .int p1)] := hl
  refine lv_iload_n hx hb dX12_derive_0 rfl (lv_at hl 1 rfl) ?_
  refine lv_iconst (v := 0) hx hb dX12_derive_1 (by decide) ?_
  refine lv_aload_n hx hb dX12_derive_2 rfl (lv_at hl 0 rfl) ?_
  refine f_12_5 F w (a := 146) rfl tb_227 dX12_derive_3 ?_
  refine r_val (v := 0) (h0) ?_
  refine x_Si F w (As := [.int p1, .int 0, .int 0]) (rest := []) (c_X12_in_66 h1) gs_X12_55 hs_X12_in ⟨Nat.le_of_ble_eq_true rfl, Nat.le_of_ble_eq_true rfl⟩ hl.1 rfl (Nat.le_of_ble_eq_true rfl) ⟨Nat.zero_le _, Nat.zero_le _⟩ dX12_derive_6 (fun H locs w => ?_)
  refine lv_if_eq (tgt := 24) hx hb dX12_derive_9 (by decide) (fun _ => ?_) (fun c1 => absurd c1 (by decide))
  refine lv_iconst (v := (-1)) hx hb dX12_derive_24 (by decide) ?_
  exact e_i F w hr hlocks ⟨rfl, rfl⟩ dX12_derive_25
theorem tk_X12_derive : Cond.code yX12_derive cX12_derive 2 (some .int) ∈ TB := tbm (tc6 (List.mem_of_getElem? (i := 137) rfl)) rfl
theorem gc_X12_derive : GoodIn TB (cw yX12_derive cX12_derive 2 (some .int)) := goodIn_c2 tk_X12_derive
theorem tb_353 : Cond.methodLink "ToneLinesLaw" 77 yX12_derive ∈ TB := tbm (tc6 (List.mem_of_getElem? (i := 134) rfl)) rfl
theorem tb_354 : Cond.instanceMethod yX12_derive ∈ TB := tbm (tc6 (List.mem_of_getElem? (i := 135) rfl)) rfl
theorem tb_355 : Cond.selects "ToneLinesModel" yX12_derive yX12_derive ∈ TB := tbm (tc6 (List.mem_of_getElem? (i := 136) rfl)) rfl
theorem gv_L_77 : GoodIn TB (wsV RL 77 RX12 yX12_derive (cw yX12_derive cX12_derive 2 (some .int))) := goodIn_4 tb_353 tb_354 tb_355 tb_150 gc_X12_derive
theorem hv_X12_derive : yX12_derive.cls = RX12 ∧ yX12_derive.cls ≠ "java/lang/invoke/MethodHandle" ∧ yX12_derive.cls ≠ "java/lang/invoke/VarHandle" ∧ (parseMethodDescriptor yX12_derive.desc).map (fun d => d.parameters.length) = some 1 := by decide +kernel
theorem dL_law_625 : decode cL_law 625 = .ok (.if_icmp .eq 440, 3) := by decide +kernel
set_option maxRecDepth 8000 in
theorem la_13_37 {p : Program} {l : Launch} {e : Env} {s : State} {m : MethodId} {below : List Frame} {meth : Method} {c : Code} {D : va_G} {B b : Nat} {cy : Nat → ClassId} {H : Heap} {locs : List Loc} {ls : Array Slot} {xs : Nat → Int32} {Q : State → Prop} (F : CallFix p m c code 4 s #[Value.ref b] TB RL) (hX : va_X b 6 xs s s.heap) (hbl : b < s.heap.size) (hbA : ¬ B ≤ b) (w : Wd D B cy s s.heap M0 H locs) (hl : lv_has ls 4 [(3, .int 0), (2, .ref (B + 146)), (1, .ref (B + 0)), (0, .ref b)]) (h0 : (xs 1) < 0) (kk : ∀ (M1 : Mem) (H1 : Heap) (locs1 : List Loc), Wd D B cy s s.heap M1 H1 locs1 → W p l e room_1 s m #[Value.ref b] below meth c H1 locs1 159 13107 Q (F0 m 1065 ls [])) : W p l e room_1 s m #[Value.ref b] below meth c H locs 159 13107 Q (F0 m 607 ls []) := by
  have hx := F.1
  have hb := F.2.1
  refine lv_aload_n hx hb dL_law_607 rfl (lv_at hl 2 rfl) ?_
  refine lv_aload_n hx hb dL_law_608 rfl (lv_at hl 3 rfl) ?_
  refine lv_iload_n hx hb dL_law_609 rfl (lv_at hl 0 rfl) ?_
  refine lv_iconst (v := 1) hx hb dL_law_610 (by decide) ?_
  refine lv_iadd hx hb dL_law_611 ?_
  refine r_val (v := 1) (by decide) ?_
  refine va_sld hx hb hX hbl hbA w.2.2.1 (vpi (by decide) (by decide)) dL_law_612 ?_
  refine r_val (v := xs 1) (congrArg xs (show (1 : Int32).toNatClampNeg = 1 by decide)) ?_
  refine x_Vi F w (As := [.int (xs 1)]) (rest := []) (a := 0) (by decide) (sh_11 rfl _ _) rfl (c_X11_derive_204 h0) gv_L_74 hv_X11_derive ⟨Nat.le_of_ble_eq_true rfl, Nat.le_of_ble_eq_true rfl⟩ hl.1 rfl (Nat.le_of_ble_eq_true rfl) ⟨Nat.le_of_ble_eq_true rfl, Nat.le_of_ble_eq_true rfl⟩ dL_law_613 (fun H locs w => ?_)
  refine lv_aload_n hx hb dL_law_616 rfl (lv_at hl 1 rfl) ?_
  refine lv_aload_n hx hb dL_law_617 rfl (lv_at hl 3 rfl) ?_
  refine lv_iload_n hx hb dL_law_618 rfl (lv_at hl 0 rfl) ?_
  refine lv_iconst (v := 1) hx hb dL_law_619 (by decide) ?_
  refine lv_iadd hx hb dL_law_620 ?_
  refine r_val (v := 1) (by decide) ?_
  refine va_sld hx hb hX hbl hbA w.2.2.1 (vpi (by decide) (by decide)) dL_law_621 ?_
  refine r_val (v := xs 1) (congrArg xs (show (1 : Int32).toNatClampNeg = 1 by decide)) ?_
  refine x_Vi F w (As := [.int (xs 1)]) (rest := [.int (-1)]) (a := 146) (by decide) (sh_12 rfl _ _) rfl (c_X12_derive_205 (rfl) h0) gv_L_77 hv_X12_derive ⟨Nat.le_of_ble_eq_true rfl, Nat.le_of_ble_eq_true rfl⟩ hl.1 rfl (Nat.le_of_ble_eq_true rfl) ⟨Nat.le_of_ble_eq_true rfl, Nat.le_of_ble_eq_true rfl⟩ dL_law_622 (fun H locs w => ?_)
  refine lv_icmp_eq (tgt := 1065) hx hb dL_law_625 (by decide) (fun _ => ?_) (fun c1 => absurd c1 (by decide))
  exact kk _ _ _ w
theorem dX0_covers_4 : decode cX0_covers 4 = .ok (.iload_n 1, 1) := by decide +kernel
theorem dX0_covers_5 : decode cX0_covers 5 = .ok (.aload_n 0, 1) := by decide +kernel
theorem dX0_covers_6 : decode cX0_covers 6 = .ok (.getfield 24, 3) := by decide +kernel
theorem dX0_covers_9 : decode cX0_covers 9 = .ok (.if_icmp .gt 7, 3) := by decide +kernel
theorem dX0_covers_12 : decode cX0_covers 12 = .ok (.iconst 1, 1) := by decide +kernel
theorem dX0_covers_13 : decode cX0_covers 13 = .ok (.goto 4, 3) := by decide +kernel
set_option maxRecDepth 4000 in
theorem c_X0_covers_206 {l : Launch} {D : va_G} {B : Nat} {cy : Nat → ClassId} {M : Mem} (h0 : M.1 22 2 = 0) : Ci l D B cy yX0_covers cX0_covers 2 (some .boolean) 0 0 [.ref (B + 22), .int 0] M (fun r M1 => r = 1 ∧ M1 = M) := by
  refine s_any (by decide) (Nat.le_of_ble_eq_true rfl) ?_
  intro p e s m below meth c ls F hr hlocks w hl
  have F : CallFix p m c cX0_covers 2 s _ TB RX0 := F
  have hx := F.1
  have hb := F.2.1
  have hl : lv_has ls 2 [(0, .ref (B + 22)), (1, .int 0)] := hl
  refine lv_iload_n hx hb dX0_covers_0 rfl (lv_at hl 1 rfl) ?_
  refine lv_if_lt (tgt := 16) hx hb dX0_covers_1 (by decide) (fun c1 => absurd c1 (by decide)) (fun _ => ?_)
  refine lv_iload_n hx hb dX0_covers_4 rfl (lv_at hl 1 rfl) ?_
  refine lv_aload_n hx hb dX0_covers_5 rfl (lv_at hl 0 rfl) ?_
  refine f_0_2 F w (a := 22) rfl tb_54 dX0_covers_6 ?_
  refine r_val (v := 0) (h0) ?_
  refine lv_icmp_gt (tgt := 16) hx hb dX0_covers_9 (by decide) (fun c1 => absurd c1 (by decide)) (fun _ => ?_)
  refine lv_iconst (v := 1) hx hb dX0_covers_12 (by decide) ?_
  refine lv_goto (tgt := 17) hx hb dX0_covers_13 (by decide) ?_
  exact e_z F w hr hlocks (by decide) ⟨rfl, rfl⟩ dX0_covers_17
theorem dX11_derive_13 : decode cX11_derive 13 = .ok (.aload_n 0, 1) := by decide +kernel
theorem dX11_derive_14 : decode cX11_derive 14 = .ok (.getfield 35, 3) := by decide +kernel
theorem dX11_derive_17 : decode cX11_derive 17 = .ok (.iload_n 1, 1) := by decide +kernel
theorem dX11_derive_18 : decode cX11_derive 18 = .ok (.invokevirtual 196, 3) := by decide +kernel
theorem dX0_stageOf_0 : decode cX0_stageOf 0 = .ok (.aload_n 0, 1) := by decide +kernel
theorem dX0_stageOf_1 : decode cX0_stageOf 1 = .ok (.iload_n 1, 1) := by decide +kernel
theorem dX0_stageOf_2 : decode cX0_stageOf 2 = .ok (.invokevirtual 60, 3) := by decide +kernel
theorem tb_356 : Cond.methodLink "ToneLines$Derivation" 60 yX0_covers ∈ TB := tbm (tc4 (List.mem_of_getElem? (i := 106) rfl)) rfl
theorem gv_X0_60 : GoodIn TB (wsV RX0 60 RX0 yX0_covers (cw yX0_covers cX0_covers 2 (some .boolean))) := goodIn_4 tb_356 tb_348 tb_349 tb_43 gc_X0_covers
theorem dX0_stageOf_5 : decode cX0_stageOf 5 = .ok (.ifCond .ne 8, 3) := by decide +kernel
theorem dX0_stageOf_13 : decode cX0_stageOf 13 = .ok (.aload_n 0, 1) := by decide +kernel
theorem dX0_stageOf_14 : decode cX0_stageOf 14 = .ok (.getfield 41, 3) := by decide +kernel
theorem dX0_stageOf_17 : decode cX0_stageOf 17 = .ok (.iload_n 1, 1) := by decide +kernel
theorem dX0_stageOf_18 : decode cX0_stageOf 18 = .ok (.if_icmp .ge 83, 3) := by decide +kernel
theorem dX0_stageOf_101 : decode cX0_stageOf 101 = .ok (.aload_n 0, 1) := by decide +kernel
theorem dX0_stageOf_102 : decode cX0_stageOf 102 = .ok (.getfield 30, 3) := by decide +kernel
theorem dX0_stageOf_105 : decode cX0_stageOf 105 = .ok (.iload_n 1, 1) := by decide +kernel
theorem dX0_stageOf_106 : decode cX0_stageOf 106 = .ok (.aaload, 1) := by decide +kernel
theorem dX0_stageOf_107 : decode cX0_stageOf 107 = .ok (.areturn, 1) := by decide +kernel
set_option maxRecDepth 4000 in
theorem c_X0_stageOf_207 {l : Launch} {D : va_G} {B : Nat} {cy : Nat → ClassId} {M : Mem} (h0 : M.1 22 2 = 0) (h1 : M.1 22 7 = 0) : Cr l D B cy yX0_stageOf cX0_stageOf 3 (some (.object "ToneLines$Word")) 1 21 [.ref (B + 22), .int 0] M (fun r M1 => r = 44 ∧ M1 = M) := by
  refine s_any (by decide) (Nat.le_of_ble_eq_true rfl) ?_
  intro p e s m below meth c ls F hr hlocks w hl
  have F : CallFix p m c cX0_stageOf 3 s _ TB RX0 := F
  have hx := F.1
  have hb := F.2.1
  have hl : lv_has ls 3 [(0, .ref (B + 22)), (1, .int 0)] := hl
  refine lv_aload_n hx hb dX0_stageOf_0 rfl (lv_at hl 0 rfl) ?_
  refine lv_iload_n hx hb dX0_stageOf_1 rfl (lv_at hl 1 rfl) ?_
  refine x_Vi F w (As := [.int 0]) (rest := []) (a := 22) (by decide) (sh_0 rfl _ _) rfl (c_X0_covers_206 (h0)) gv_X0_60 hv_X0_covers ⟨Nat.le_of_ble_eq_true rfl, Nat.le_of_ble_eq_true rfl⟩ hl.1 rfl (Nat.le_of_ble_eq_true rfl) ⟨Nat.zero_le _, Nat.zero_le _⟩ dX0_stageOf_2 (fun H locs w => ?_)
  refine lv_if_ne (tgt := 13) hx hb dX0_stageOf_5 (by decide) (fun _ => ?_) (fun c1 => absurd c1 (by decide))
  refine lv_aload_n hx hb dX0_stageOf_13 rfl (lv_at hl 0 rfl) ?_
  refine f_0_7 F w (a := 22) rfl tb_59 dX0_stageOf_14 ?_
  refine r_val (v := 0) (h1) ?_
  refine lv_iload_n hx hb dX0_stageOf_17 rfl (lv_at hl 1 rfl) ?_
  refine lv_icmp_ge (tgt := 101) hx hb dX0_stageOf_18 (by decide) (fun _ => ?_) (fun c1 => absurd c1 (by decide))
  refine lv_aload_n hx hb dX0_stageOf_101 rfl (lv_at hl 0 rfl) ?_
  refine f_0_3 F w (a := 22) rfl tb_56 dX0_stageOf_102 ?_
  refine lv_iload_n hx hb dX0_stageOf_105 rfl (lv_at hl 1 rfl) ?_
  refine g_aldW F w (a := 25) rfl (j := 0) (o := 44) rfl ⟨by decide, by decide⟩ (by decide) dX0_stageOf_106 ?_
  exact e_r (post := fun r M1 => r = 44 ∧ M1 = M) F w hr hlocks ⟨rfl, rfl⟩ dX0_stageOf_107
theorem tk_X0_stageOf : Cond.code yX0_stageOf cX0_stageOf 3 (some (.object "ToneLines$Word")) ∈ TB := tbm (tc4 (List.mem_of_getElem? (i := 105) rfl)) rfl
theorem gc_X0_stageOf : GoodIn TB (cw yX0_stageOf cX0_stageOf 3 (some (.object "ToneLines$Word"))) := goodIn_c2 tk_X0_stageOf
theorem tb_357 : Cond.methodLink "ToneLines" 196 yX0_stageOf ∈ TB := tbm (tc4 (List.mem_of_getElem? (i := 102) rfl)) rfl
theorem tb_358 : Cond.instanceMethod yX0_stageOf ∈ TB := tbm (tc4 (List.mem_of_getElem? (i := 103) rfl)) rfl
theorem tb_359 : Cond.selects "ToneLines$Derivation" yX0_stageOf yX0_stageOf ∈ TB := tbm (tc4 (List.mem_of_getElem? (i := 104) rfl)) rfl
theorem gv_X11_196 : GoodIn TB (wsV RX11 196 RX0 yX0_stageOf (cw yX0_stageOf cX0_stageOf 3 (some (.object "ToneLines$Word")))) := goodIn_4 tb_357 tb_358 tb_359 tb_43 gc_X0_stageOf
theorem hv_X0_stageOf : yX0_stageOf.cls = RX0 ∧ yX0_stageOf.cls ≠ "java/lang/invoke/MethodHandle" ∧ yX0_stageOf.cls ≠ "java/lang/invoke/VarHandle" ∧ (parseMethodDescriptor yX0_stageOf.desc).map (fun d => d.parameters.length) = some 1 := by decide +kernel
theorem dX11_derive_21 : decode cX11_derive 21 = .ok (.astore_n 2, 1) := by decide +kernel
theorem dX11_derive_22 : decode cX11_derive 22 = .ok (.aload_n 0, 1) := by decide +kernel
theorem dX11_derive_23 : decode cX11_derive 23 = .ok (.getfield 35, 3) := by decide +kernel
theorem dX11_derive_26 : decode cX11_derive 26 = .ok (.iload_n 1, 1) := by decide +kernel
theorem dX11_derive_27 : decode cX11_derive 27 = .ok (.invokevirtual 200, 3) := by decide +kernel
theorem dX0_changesUpTo_0 : decode cX0_changesUpTo 0 = .ok (.iconst 0, 1) := by decide +kernel
theorem dX0_changesUpTo_1 : decode cX0_changesUpTo 1 = .ok (.istore_n 2, 1) := by decide +kernel
theorem dX0_changesUpTo_2 : decode cX0_changesUpTo 2 = .ok (.iconst 0, 1) := by decide +kernel
theorem dX0_changesUpTo_3 : decode cX0_changesUpTo 3 = .ok (.istore_n 3, 1) := by decide +kernel
theorem dX0_changesUpTo_4 : decode cX0_changesUpTo 4 = .ok (.iload_n 3, 1) := by decide +kernel
theorem dX0_changesUpTo_5 : decode cX0_changesUpTo 5 = .ok (.iload_n 1, 1) := by decide +kernel
theorem dX0_changesUpTo_6 : decode cX0_changesUpTo 6 = .ok (.if_icmp .ge 26, 3) := by decide +kernel
theorem dX0_changesUpTo_32 : decode cX0_changesUpTo 32 = .ok (.iload_n 2, 1) := by decide +kernel
theorem dX0_changesUpTo_33 : decode cX0_changesUpTo 33 = .ok (.ireturn, 1) := by decide +kernel
set_option maxRecDepth 4000 in
theorem c_X0_changesUpTo_208 {l : Launch} {D : va_G} {B : Nat} {cy : Nat → ClassId} {M : Mem} : Ci l D B cy yX0_changesUpTo cX0_changesUpTo 4 (some .int) 0 0 [.ref (B + 22), .int 0] M (fun r M1 => r = 0 ∧ M1 = M) := by
  refine s_any (by decide) (Nat.le_of_ble_eq_true rfl) ?_
  intro p e s m below meth c ls F hr hlocks w hl
  have F : CallFix p m c cX0_changesUpTo 4 s _ TB RX0 := F
  have hx := F.1
  have hb := F.2.1
  have hl : lv_has ls 4 [(0, .ref (B + 22)), (1, .int 0)] := hl
  refine lv_iconst (v := 0) hx hb dX0_changesUpTo_0 (by decide) ?_
  refine lv_istore_n (lv' := [(2, .int 0), (0, .ref (B + 22)), (1, .int 0)]) hx hb dX0_changesUpTo_1 rfl hl (by decide) rfl (fun ls hl => ?_)
  refine lv_iconst (v := 0) hx hb dX0_changesUpTo_2 (by decide) ?_
  refine lv_istore_n (lv' := [(3, .int 0), (2, .int 0), (0, .ref (B + 22)), (1, .int 0)]) hx hb dX0_changesUpTo_3 rfl hl (by decide) rfl (fun ls hl => ?_)
  refine lv_iload_n hx hb dX0_changesUpTo_4 rfl (lv_at hl 0 rfl) ?_
  refine lv_iload_n hx hb dX0_changesUpTo_5 rfl (lv_at hl 3 rfl) ?_
  refine lv_icmp_ge (tgt := 32) hx hb dX0_changesUpTo_6 (by decide) (fun _ => ?_) (fun c1 => absurd c1 (by decide))
  refine lv_iload_n hx hb dX0_changesUpTo_32 rfl (lv_at hl 1 rfl) ?_
  exact e_i F w hr hlocks ⟨rfl, rfl⟩ dX0_changesUpTo_33
theorem tk_X0_changesUpTo : Cond.code yX0_changesUpTo cX0_changesUpTo 4 (some .int) ∈ TB := tbm (tc4 (List.mem_of_getElem? (i := 112) rfl)) rfl
theorem gc_X0_changesUpTo : GoodIn TB (cw yX0_changesUpTo cX0_changesUpTo 4 (some .int)) := goodIn_c2 tk_X0_changesUpTo
theorem tb_360 : Cond.methodLink "ToneLines" 200 yX0_changesUpTo ∈ TB := tbm (tc4 (List.mem_of_getElem? (i := 109) rfl)) rfl
theorem tb_361 : Cond.instanceMethod yX0_changesUpTo ∈ TB := tbm (tc4 (List.mem_of_getElem? (i := 110) rfl)) rfl
theorem tb_362 : Cond.selects "ToneLines$Derivation" yX0_changesUpTo yX0_changesUpTo ∈ TB := tbm (tc4 (List.mem_of_getElem? (i := 111) rfl)) rfl
theorem gv_X11_200 : GoodIn TB (wsV RX11 200 RX0 yX0_changesUpTo (cw yX0_changesUpTo cX0_changesUpTo 4 (some .int))) := goodIn_4 tb_360 tb_361 tb_362 tb_43 gc_X0_changesUpTo
theorem hv_X0_changesUpTo : yX0_changesUpTo.cls = RX0 ∧ yX0_changesUpTo.cls ≠ "java/lang/invoke/MethodHandle" ∧ yX0_changesUpTo.cls ≠ "java/lang/invoke/VarHandle" ∧ (parseMethodDescriptor yX0_changesUpTo.desc).map (fun d => d.parameters.length) = some 1 := by decide +kernel
theorem dX11_derive_30 : decode cX11_derive 30 = .ok (.istore_n 3, 1) := by decide +kernel
theorem dX11_derive_31 : decode cX11_derive 31 = .ok (.aload_n 0, 1) := by decide +kernel
theorem dX11_derive_32 : decode cX11_derive 32 = .ok (.aload_n 2, 1) := by decide +kernel
theorem dX11_derive_33 : decode cX11_derive 33 = .ok (.iload_n 3, 1) := by decide +kernel
theorem dX11_derive_34 : decode cX11_derive 34 = .ok (.invokevirtual 189, 3) := by decide +kernel
theorem dX11_becomes_0 : decode cX11_becomes 0 = .ok (.iload_n 2, 1) := by decide +kernel
theorem dX11_becomes_1 : decode cX11_becomes 1 = .ok (.ifCond .le 15, 3) := by decide +kernel
theorem dX11_becomes_16 : decode cX11_becomes 16 = .ok (.return_, 1) := by decide +kernel
set_option maxRecDepth 4000 in
theorem c_X11_becomes_209 {l : Launch} {D : va_G} {B : Nat} {cy : Nat → ClassId} {M : Mem} : Cv l D B cy yX11_becomes cX11_becomes 3 0 0 [.ref (B + 0), .ref (B + 44), .int 0] M (fun M1 => M1 = M) := by
  refine s_any (by decide) (Nat.le_of_ble_eq_true rfl) ?_
  intro p e s m below meth c ls F hr hlocks w hl
  have F : CallFix p m c cX11_becomes 3 s _ TB RX11 := F
  have hx := F.1
  have hb := F.2.1
  have hl : lv_has ls 3 [(0, .ref (B + 0)), (1, .ref (B + 44)), (2, .int 0)] := hl
  refine lv_iload_n hx hb dX11_becomes_0 rfl (lv_at hl 2 rfl) ?_
  refine lv_if_le (tgt := 16) hx hb dX11_becomes_1 (by decide) (fun _ => ?_) (fun c1 => absurd c1 (by decide))
  exact e_v F w hr hlocks rfl dX11_becomes_16
theorem tk_X11_becomes : Cond.code yX11_becomes cX11_becomes 3 none ∈ TB := tbm (tc4 (List.mem_of_getElem? (i := 93) rfl)) rfl
theorem gc_X11_becomes : GoodIn TB (cw yX11_becomes cX11_becomes 3 none) := goodIn_c2 tk_X11_becomes
theorem tb_363 : Cond.methodLink "ToneLines" 189 yX11_becomes ∈ TB := tbm (tc4 (List.mem_of_getElem? (i := 90) rfl)) rfl
theorem tb_364 : Cond.instanceMethod yX11_becomes ∈ TB := tbm (tc4 (List.mem_of_getElem? (i := 92) rfl)) rfl
theorem tb_365 : Cond.selects "ToneLines" yX11_becomes yX11_becomes ∈ TB := tbp (List.mem_of_getElem? (i := 29) rfl) rfl
theorem gv_X11_189 : GoodIn TB (wsV RX11 189 RX11 yX11_becomes (cw yX11_becomes cX11_becomes 3 none)) := goodIn_4 tb_363 tb_364 tb_365 tb_145 gc_X11_becomes
theorem hv_X11_becomes : yX11_becomes.cls = RX11 ∧ yX11_becomes.cls ≠ "java/lang/invoke/MethodHandle" ∧ yX11_becomes.cls ≠ "java/lang/invoke/VarHandle" ∧ (parseMethodDescriptor yX11_becomes.desc).map (fun d => d.parameters.length) = some 2 := by decide +kernel
theorem dX11_derive_37 : decode cX11_derive 37 = .ok (.iload_n 3, 1) := by decide +kernel
theorem dX11_derive_38 : decode cX11_derive 38 = .ok (.ireturn, 1) := by decide +kernel
set_option maxRecDepth 4000 in
theorem c_X11_derive_210 {l : Launch} {D : va_G} {B : Nat} {cy : Nat → ClassId} {M : Mem} (h0 : M.1 22 2 = 0) (h1 : M.1 22 7 = 0) : Ci l D B cy yX11_derive cX11_derive 4 (some .int) 2 43 [.ref (B + 0), .int 0] M (fun r M1 => r = 0 ∧ M1 = M) := by
  refine s_any (by decide) (Nat.le_of_ble_eq_true rfl) ?_
  intro p e s m below meth c ls F hr hlocks w hl
  have F : CallFix p m c cX11_derive 4 s _ TB RX11 := F
  have hx := F.1
  have hb := F.2.1
  have hl : lv_has ls 4 [(0, .ref (B + 0)), (1, .int 0)] := hl
  refine lv_aload_n hx hb dX11_derive_0 rfl (lv_at hl 0 rfl) ?_
  refine f_11_3 F w (a := 0) rfl tb_73 dX11_derive_1 ?_
  refine lv_iload_n hx hb dX11_derive_4 rfl (lv_at hl 1 rfl) ?_
  refine x_Vi F w (As := [.int 0]) (rest := []) (a := 22) (by decide) (sh_0 rfl _ _) rfl (c_X0_covers_206 (h0)) gv_X11_193 hv_X0_covers ⟨Nat.le_of_ble_eq_true rfl, Nat.le_of_ble_eq_true rfl⟩ hl.1 rfl (Nat.le_of_ble_eq_true rfl) ⟨Nat.zero_le _, Nat.zero_le _⟩ dX11_derive_5 (fun H locs w => ?_)
  refine lv_if_ne (tgt := 13) hx hb dX11_derive_8 (by decide) (fun _ => ?_) (fun c1 => absurd c1 (by decide))
  refine lv_aload_n hx hb dX11_derive_13 rfl (lv_at hl 0 rfl) ?_
  refine f_11_3 F w (a := 0) rfl tb_73 dX11_derive_14 ?_
  refine lv_iload_n hx hb dX11_derive_17 rfl (lv_at hl 1 rfl) ?_
  refine x_Vr F w (As := [.int 0]) (rest := []) (a := 22) (by decide) (sh_0 rfl _ _) rfl (c_X0_stageOf_207 (h0) (h1)) gv_X11_196 hv_X0_stageOf ⟨Nat.le_of_ble_eq_true rfl, Nat.le_of_ble_eq_true rfl⟩ hl.1 rfl (Nat.le_of_ble_eq_true rfl) ⟨Nat.zero_le _, Nat.zero_le _⟩ dX11_derive_18 (fun H locs w => ?_)
  refine lv_astore_n (lv' := [(2, .ref (B + 44)), (0, .ref (B + 0)), (1, .int 0)]) hx hb dX11_derive_21 rfl hl (by decide) rfl (fun ls hl => ?_)
  refine lv_aload_n hx hb dX11_derive_22 rfl (lv_at hl 1 rfl) ?_
  refine f_11_3 F w (a := 0) rfl tb_73 dX11_derive_23 ?_
  refine lv_iload_n hx hb dX11_derive_26 rfl (lv_at hl 2 rfl) ?_
  refine x_Vi F w (As := [.int 0]) (rest := []) (a := 22) (by decide) (sh_0 rfl _ _) rfl (c_X0_changesUpTo_208) gv_X11_200 hv_X0_changesUpTo ⟨Nat.le_of_ble_eq_true rfl, Nat.le_of_ble_eq_true rfl⟩ hl.1 rfl (Nat.le_of_ble_eq_true rfl) ⟨Nat.zero_le _, Nat.zero_le _⟩ dX11_derive_27 (fun H locs w => ?_)
  refine lv_istore_n (lv' := [(3, .int 0), (2, .ref (B + 44)), (0, .ref (B + 0)), (1, .int 0)]) hx hb dX11_derive_30 rfl hl (by decide) rfl (fun ls hl => ?_)
  refine lv_aload_n hx hb dX11_derive_31 rfl (lv_at hl 2 rfl) ?_
  refine lv_aload_n hx hb dX11_derive_32 rfl (lv_at hl 1 rfl) ?_
  refine lv_iload_n hx hb dX11_derive_33 rfl (lv_at hl 0 rfl) ?_
  refine x_Vv F w (As := [.ref (B + 44), .int 0]) (rest := []) (a := 0) (by decide) (sh_11 rfl _ _) rfl (c_X11_becomes_209) gv_X11_189 hv_X11_becomes ⟨Nat.le_of_ble_eq_true rfl, Nat.le_of_ble_eq_true rfl⟩ hl.1 rfl (Nat.le_of_ble_eq_true rfl) ⟨Nat.zero_le _, Nat.zero_le _⟩ dX11_derive_34 (fun H locs w => ?_)
  refine lv_iload_n hx hb dX11_derive_37 rfl (lv_at hl 0 rfl) ?_
  exact e_i F w hr hlocks ⟨rfl, rfl⟩ dX11_derive_38
theorem dX12_derive_12 : decode cX12_derive 12 = .ok (.aload_n 0, 1) := by decide +kernel
theorem dX12_derive_13 : decode cX12_derive 13 = .ok (.aload_n 0, 1) := by decide +kernel
theorem dX12_derive_14 : decode cX12_derive 14 = .ok (.iload_n 1, 1) := by decide +kernel
theorem dX12_derive_15 : decode cX12_derive 15 = .ok (.invokevirtual 255, 3) := by decide +kernel
theorem dX12_derives_0 : decode cX12_derives 0 = .ok (.aload_n 0, 1) := by decide +kernel
theorem dX12_derives_1 : decode cX12_derives 1 = .ok (.getfield 17, 3) := by decide +kernel
theorem dX12_derives_4 : decode cX12_derives 4 = .ok (.aload_n 0, 1) := by decide +kernel
theorem dX12_derives_5 : decode cX12_derives 5 = .ok (.getfield 13, 3) := by decide +kernel
theorem dX12_derives_8 : decode cX12_derives 8 = .ok (.invokestatic 162, 3) := by decide +kernel
theorem dX12_copy_0 : decode cX12_copy 0 = .ok (.iconst 0, 1) := by decide +kernel
theorem dX12_copy_1 : decode cX12_copy 1 = .ok (.istore_n 2, 1) := by decide +kernel
theorem dX12_copy_2 : decode cX12_copy 2 = .ok (.iload_n 2, 1) := by decide +kernel
theorem dX12_copy_3 : decode cX12_copy 3 = .ok (.bipush 28, 2) := by decide +kernel
theorem dX12_copy_5 : decode cX12_copy 5 = .ok (.if_icmp .ge 15, 3) := by decide +kernel
theorem dX12_copy_8 : decode cX12_copy 8 = .ok (.aload_n 0, 1) := by decide +kernel
theorem dX12_copy_9 : decode cX12_copy 9 = .ok (.iload_n 2, 1) := by decide +kernel
theorem dX12_copy_10 : decode cX12_copy 10 = .ok (.aload_n 1, 1) := by decide +kernel
theorem dX12_copy_11 : decode cX12_copy 11 = .ok (.iload_n 2, 1) := by decide +kernel
theorem dX12_copy_12 : decode cX12_copy 12 = .ok (.iaload, 1) := by decide +kernel
theorem dX12_copy_13 : decode cX12_copy 13 = .ok (.iastore, 1) := by decide +kernel
theorem dX12_copy_14 : decode cX12_copy 14 = .ok (.iinc 2 1, 3) := by decide +kernel
theorem dX12_copy_17 : decode cX12_copy 17 = .ok (.goto (-15), 3) := by decide +kernel
theorem dX12_copy_20 : decode cX12_copy 20 = .ok (.return_, 1) := by decide +kernel
set_option maxRecDepth 4000 in
theorem c_X12_copy_211 {l : Launch} {D : va_G} {B : Nat} {cy : Nat → ClassId} {M : Mem} (h0 : M.1 147 0 = 0) (h1 : M.1 148 0 = 0) (h2 : M.1 147 1 = 0) (h3 : M.1 148 1 = 0) (h4 : M.1 147 2 = 0) (h5 : M.1 148 2 = 0) (h6 : M.1 147 3 = 0) (h7 : M.1 148 3 = 0) (h8 : M.1 147 4 = 0) (h9 : M.1 148 4 = 0) (h10 : M.1 147 5 = 0) (h11 : M.1 148 5 = 0) (h12 : M.1 147 6 = 0) (h13 : M.1 148 6 = 0) (h14 : M.1 147 7 = 0) (h15 : M.1 148 7 = 0) (h16 : M.1 147 8 = 0) (h17 : M.1 148 8 = 0) (h18 : M.1 147 9 = 0) (h19 : M.1 148 9 = 0) (h20 : M.1 147 10 = 0) (h21 : M.1 148 10 = 0) (h22 : M.1 147 11 = 0) (h23 : M.1 148 11 = 0) (h24 : M.1 147 12 = 0) (h25 : M.1 148 12 = 0) (h26 : M.1 147 13 = 0) (h27 : M.1 148 13 = 0) (h28 : M.1 147 14 = 0) (h29 : M.1 148 14 = 0) (h30 : M.1 147 15 = 0) (h31 : M.1 148 15 = 0) (h32 : M.1 147 16 = 0) (h33 : M.1 148 16 = 0) (h34 : M.1 147 17 = 0) (h35 : M.1 148 17 = 0) (h36 : M.1 147 18 = 0) (h37 : M.1 148 18 = 0) (h38 : M.1 147 19 = 0) (h39 : M.1 148 19 = 0) (h40 : M.1 147 20 = 0) (h41 : M.1 148 20 = 0) (h42 : M.1 147 21 = 0) (h43 : M.1 148 21 = 0) (h44 : M.1 147 22 = 0) (h45 : M.1 148 22 = 0) (h46 : M.1 147 23 = 0) (h47 : M.1 148 23 = 0) (h48 : M.1 147 24 = 0) (h49 : M.1 148 24 = 0) (h50 : M.1 147 25 = 0) (h51 : M.1 148 25 = 0) (h52 : M.1 147 26 = 0) (h53 : M.1 148 26 = 0) (h54 : M.1 147 27 = 0) (h55 : M.1 148 27 = 0) : Cv l D B cy yX12_copy cX12_copy 3 0 0 [.ref (B + 148), .ref (B + 147)] M (fun M1 => M1 = M) := by
  refine s_any (by decide) (Nat.le_of_ble_eq_true rfl) ?_
  intro p e s m below meth c ls F hr hlocks w hl
  have F : CallFix p m c cX12_copy 3 s _ TB RX12 := F
  have hx := F.1
  have hb := F.2.1
  have hl : lv_has ls 3 [(0, .ref (B + 148)), (1, .ref (B + 147))] := hl
  refine lv_iconst (v := 0) hx hb dX12_copy_0 (by decide) ?_
  refine lv_istore_n (lv' := [(2, .int 0), (0, .ref (B + 148)), (1, .ref (B + 147))]) hx hb dX12_copy_1 rfl hl (by decide) rfl (fun ls hl => ?_)
  refine lv_iload_n hx hb dX12_copy_2 rfl (lv_at hl 0 rfl) ?_
  refine lv_bipush (v := 28) hx hb dX12_copy_3 (by decide) ?_
  refine lv_icmp_ge (tgt := 20) hx hb dX12_copy_5 (by decide) (fun c1 => absurd c1 (by decide)) (fun _ => ?_)
  refine lv_aload_n hx hb dX12_copy_8 rfl (lv_at hl 1 rfl) ?_
  refine lv_iload_n hx hb dX12_copy_9 rfl (lv_at hl 0 rfl) ?_
  refine lv_aload_n hx hb dX12_copy_10 rfl (lv_at hl 2 rfl) ?_
  refine lv_iload_n hx hb dX12_copy_11 rfl (lv_at hl 0 rfl) ?_
  refine g_iald F w (a := 147) rfl (j := 0) ⟨by decide, by decide⟩ (by decide) dX12_copy_12 ?_
  refine r_val (v := 0) (h0) ?_
  refine g_iast F w (a := 148) rfl (j := 0) ⟨by decide, by decide⟩ (by decide) dX12_copy_13 (fun H locs w => ?_)
  rw [st_same (h1)] at w
  refine lv_iinc (v := 1) (lv' := [(2, .int 1), (0, .ref (B + 148)), (1, .ref (B + 147))]) hx hb dX12_copy_14 hl (k := 0) rfl (by decide) (by decide) rfl (fun ls hl => ?_)
  refine lv_goto (tgt := 2) hx hb dX12_copy_17 (by decide) ?_
  refine lv_iload_n hx hb dX12_copy_2 rfl (lv_at hl 0 rfl) ?_
  refine lv_bipush (v := 28) hx hb dX12_copy_3 (by decide) ?_
  refine lv_icmp_ge (tgt := 20) hx hb dX12_copy_5 (by decide) (fun c1 => absurd c1 (by decide)) (fun _ => ?_)
  refine lv_aload_n hx hb dX12_copy_8 rfl (lv_at hl 1 rfl) ?_
  refine lv_iload_n hx hb dX12_copy_9 rfl (lv_at hl 0 rfl) ?_
  refine lv_aload_n hx hb dX12_copy_10 rfl (lv_at hl 2 rfl) ?_
  refine lv_iload_n hx hb dX12_copy_11 rfl (lv_at hl 0 rfl) ?_
  refine g_iald F w (a := 147) rfl (j := 1) ⟨by decide, by decide⟩ (by decide) dX12_copy_12 ?_
  refine r_val (v := 0) (h2) ?_
  refine g_iast F w (a := 148) rfl (j := 1) ⟨by decide, by decide⟩ (by decide) dX12_copy_13 (fun H locs w => ?_)
  rw [st_same (h3)] at w
  refine lv_iinc (v := 2) (lv' := [(2, .int 2), (0, .ref (B + 148)), (1, .ref (B + 147))]) hx hb dX12_copy_14 hl (k := 0) rfl (by decide) (by decide) rfl (fun ls hl => ?_)
  refine lv_goto (tgt := 2) hx hb dX12_copy_17 (by decide) ?_
  refine lv_iload_n hx hb dX12_copy_2 rfl (lv_at hl 0 rfl) ?_
  refine lv_bipush (v := 28) hx hb dX12_copy_3 (by decide) ?_
  refine lv_icmp_ge (tgt := 20) hx hb dX12_copy_5 (by decide) (fun c1 => absurd c1 (by decide)) (fun _ => ?_)
  refine lv_aload_n hx hb dX12_copy_8 rfl (lv_at hl 1 rfl) ?_
  refine lv_iload_n hx hb dX12_copy_9 rfl (lv_at hl 0 rfl) ?_
  refine lv_aload_n hx hb dX12_copy_10 rfl (lv_at hl 2 rfl) ?_
  refine lv_iload_n hx hb dX12_copy_11 rfl (lv_at hl 0 rfl) ?_
  refine g_iald F w (a := 147) rfl (j := 2) ⟨by decide, by decide⟩ (by decide) dX12_copy_12 ?_
  refine r_val (v := 0) (h4) ?_
  refine g_iast F w (a := 148) rfl (j := 2) ⟨by decide, by decide⟩ (by decide) dX12_copy_13 (fun H locs w => ?_)
  rw [st_same (h5)] at w
  refine lv_iinc (v := 3) (lv' := [(2, .int 3), (0, .ref (B + 148)), (1, .ref (B + 147))]) hx hb dX12_copy_14 hl (k := 0) rfl (by decide) (by decide) rfl (fun ls hl => ?_)
  refine lv_goto (tgt := 2) hx hb dX12_copy_17 (by decide) ?_
  refine lv_iload_n hx hb dX12_copy_2 rfl (lv_at hl 0 rfl) ?_
  refine lv_bipush (v := 28) hx hb dX12_copy_3 (by decide) ?_
  refine lv_icmp_ge (tgt := 20) hx hb dX12_copy_5 (by decide) (fun c1 => absurd c1 (by decide)) (fun _ => ?_)
  refine lv_aload_n hx hb dX12_copy_8 rfl (lv_at hl 1 rfl) ?_
  refine lv_iload_n hx hb dX12_copy_9 rfl (lv_at hl 0 rfl) ?_
  refine lv_aload_n hx hb dX12_copy_10 rfl (lv_at hl 2 rfl) ?_
  refine lv_iload_n hx hb dX12_copy_11 rfl (lv_at hl 0 rfl) ?_
  refine g_iald F w (a := 147) rfl (j := 3) ⟨by decide, by decide⟩ (by decide) dX12_copy_12 ?_
  refine r_val (v := 0) (h6) ?_
  refine g_iast F w (a := 148) rfl (j := 3) ⟨by decide, by decide⟩ (by decide) dX12_copy_13 (fun H locs w => ?_)
  rw [st_same (h7)] at w
  refine lv_iinc (v := 4) (lv' := [(2, .int 4), (0, .ref (B + 148)), (1, .ref (B + 147))]) hx hb dX12_copy_14 hl (k := 0) rfl (by decide) (by decide) rfl (fun ls hl => ?_)
  refine lv_goto (tgt := 2) hx hb dX12_copy_17 (by decide) ?_
  refine lv_iload_n hx hb dX12_copy_2 rfl (lv_at hl 0 rfl) ?_
  refine lv_bipush (v := 28) hx hb dX12_copy_3 (by decide) ?_
  refine lv_icmp_ge (tgt := 20) hx hb dX12_copy_5 (by decide) (fun c1 => absurd c1 (by decide)) (fun _ => ?_)
  refine lv_aload_n hx hb dX12_copy_8 rfl (lv_at hl 1 rfl) ?_
  refine lv_iload_n hx hb dX12_copy_9 rfl (lv_at hl 0 rfl) ?_
  refine lv_aload_n hx hb dX12_copy_10 rfl (lv_at hl 2 rfl) ?_
  refine lv_iload_n hx hb dX12_copy_11 rfl (lv_at hl 0 rfl) ?_
  refine g_iald F w (a := 147) rfl (j := 4) ⟨by decide, by decide⟩ (by decide) dX12_copy_12 ?_
  refine r_val (v := 0) (h8) ?_
  refine g_iast F w (a := 148) rfl (j := 4) ⟨by decide, by decide⟩ (by decide) dX12_copy_13 (fun H locs w => ?_)
  rw [st_same (h9)] at w
  refine lv_iinc (v := 5) (lv' := [(2, .int 5), (0, .ref (B + 148)), (1, .ref (B + 147))]) hx hb dX12_copy_14 hl (k := 0) rfl (by decide) (by decide) rfl (fun ls hl => ?_)
  refine lv_goto (tgt := 2) hx hb dX12_copy_17 (by decide) ?_
  refine lv_iload_n hx hb dX12_copy_2 rfl (lv_at hl 0 rfl) ?_
  refine lv_bipush (v := 28) hx hb dX12_copy_3 (by decide) ?_
  refine lv_icmp_ge (tgt := 20) hx hb dX12_copy_5 (by decide) (fun c1 => absurd c1 (by decide)) (fun _ => ?_)
  refine lv_aload_n hx hb dX12_copy_8 rfl (lv_at hl 1 rfl) ?_
  refine lv_iload_n hx hb dX12_copy_9 rfl (lv_at hl 0 rfl) ?_
  refine lv_aload_n hx hb dX12_copy_10 rfl (lv_at hl 2 rfl) ?_
  refine lv_iload_n hx hb dX12_copy_11 rfl (lv_at hl 0 rfl) ?_
  refine g_iald F w (a := 147) rfl (j := 5) ⟨by decide, by decide⟩ (by decide) dX12_copy_12 ?_
  refine r_val (v := 0) (h10) ?_
  refine g_iast F w (a := 148) rfl (j := 5) ⟨by decide, by decide⟩ (by decide) dX12_copy_13 (fun H locs w => ?_)
  rw [st_same (h11)] at w
  refine lv_iinc (v := 6) (lv' := [(2, .int 6), (0, .ref (B + 148)), (1, .ref (B + 147))]) hx hb dX12_copy_14 hl (k := 0) rfl (by decide) (by decide) rfl (fun ls hl => ?_)
  refine lv_goto (tgt := 2) hx hb dX12_copy_17 (by decide) ?_
  refine lv_iload_n hx hb dX12_copy_2 rfl (lv_at hl 0 rfl) ?_
  refine lv_bipush (v := 28) hx hb dX12_copy_3 (by decide) ?_
  refine lv_icmp_ge (tgt := 20) hx hb dX12_copy_5 (by decide) (fun c1 => absurd c1 (by decide)) (fun _ => ?_)
  refine lv_aload_n hx hb dX12_copy_8 rfl (lv_at hl 1 rfl) ?_
  refine lv_iload_n hx hb dX12_copy_9 rfl (lv_at hl 0 rfl) ?_
  refine lv_aload_n hx hb dX12_copy_10 rfl (lv_at hl 2 rfl) ?_
  refine lv_iload_n hx hb dX12_copy_11 rfl (lv_at hl 0 rfl) ?_
  refine g_iald F w (a := 147) rfl (j := 6) ⟨by decide, by decide⟩ (by decide) dX12_copy_12 ?_
  refine r_val (v := 0) (h12) ?_
  refine g_iast F w (a := 148) rfl (j := 6) ⟨by decide, by decide⟩ (by decide) dX12_copy_13 (fun H locs w => ?_)
  rw [st_same (h13)] at w
  refine lv_iinc (v := 7) (lv' := [(2, .int 7), (0, .ref (B + 148)), (1, .ref (B + 147))]) hx hb dX12_copy_14 hl (k := 0) rfl (by decide) (by decide) rfl (fun ls hl => ?_)
  refine lv_goto (tgt := 2) hx hb dX12_copy_17 (by decide) ?_
  refine lv_iload_n hx hb dX12_copy_2 rfl (lv_at hl 0 rfl) ?_
  refine lv_bipush (v := 28) hx hb dX12_copy_3 (by decide) ?_
  refine lv_icmp_ge (tgt := 20) hx hb dX12_copy_5 (by decide) (fun c1 => absurd c1 (by decide)) (fun _ => ?_)
  refine lv_aload_n hx hb dX12_copy_8 rfl (lv_at hl 1 rfl) ?_
  refine lv_iload_n hx hb dX12_copy_9 rfl (lv_at hl 0 rfl) ?_
  refine lv_aload_n hx hb dX12_copy_10 rfl (lv_at hl 2 rfl) ?_
  refine lv_iload_n hx hb dX12_copy_11 rfl (lv_at hl 0 rfl) ?_
  refine g_iald F w (a := 147) rfl (j := 7) ⟨by decide, by decide⟩ (by decide) dX12_copy_12 ?_
  refine r_val (v := 0) (h14) ?_
  refine g_iast F w (a := 148) rfl (j := 7) ⟨by decide, by decide⟩ (by decide) dX12_copy_13 (fun H locs w => ?_)
  rw [st_same (h15)] at w
  refine lv_iinc (v := 8) (lv' := [(2, .int 8), (0, .ref (B + 148)), (1, .ref (B + 147))]) hx hb dX12_copy_14 hl (k := 0) rfl (by decide) (by decide) rfl (fun ls hl => ?_)
  refine lv_goto (tgt := 2) hx hb dX12_copy_17 (by decide) ?_
  refine lv_iload_n hx hb dX12_copy_2 rfl (lv_at hl 0 rfl) ?_
  refine lv_bipush (v := 28) hx hb dX12_copy_3 (by decide) ?_
  refine lv_icmp_ge (tgt := 20) hx hb dX12_copy_5 (by decide) (fun c1 => absurd c1 (by decide)) (fun _ => ?_)
  refine lv_aload_n hx hb dX12_copy_8 rfl (lv_at hl 1 rfl) ?_
  refine lv_iload_n hx hb dX12_copy_9 rfl (lv_at hl 0 rfl) ?_
  refine lv_aload_n hx hb dX12_copy_10 rfl (lv_at hl 2 rfl) ?_
  refine lv_iload_n hx hb dX12_copy_11 rfl (lv_at hl 0 rfl) ?_
  refine g_iald F w (a := 147) rfl (j := 8) ⟨by decide, by decide⟩ (by decide) dX12_copy_12 ?_
  refine r_val (v := 0) (h16) ?_
  refine g_iast F w (a := 148) rfl (j := 8) ⟨by decide, by decide⟩ (by decide) dX12_copy_13 (fun H locs w => ?_)
  rw [st_same (h17)] at w
  refine lv_iinc (v := 9) (lv' := [(2, .int 9), (0, .ref (B + 148)), (1, .ref (B + 147))]) hx hb dX12_copy_14 hl (k := 0) rfl (by decide) (by decide) rfl (fun ls hl => ?_)
  refine lv_goto (tgt := 2) hx hb dX12_copy_17 (by decide) ?_
  refine lv_iload_n hx hb dX12_copy_2 rfl (lv_at hl 0 rfl) ?_
  refine lv_bipush (v := 28) hx hb dX12_copy_3 (by decide) ?_
  refine lv_icmp_ge (tgt := 20) hx hb dX12_copy_5 (by decide) (fun c1 => absurd c1 (by decide)) (fun _ => ?_)
  refine lv_aload_n hx hb dX12_copy_8 rfl (lv_at hl 1 rfl) ?_
  refine lv_iload_n hx hb dX12_copy_9 rfl (lv_at hl 0 rfl) ?_
  refine lv_aload_n hx hb dX12_copy_10 rfl (lv_at hl 2 rfl) ?_
  refine lv_iload_n hx hb dX12_copy_11 rfl (lv_at hl 0 rfl) ?_
  refine g_iald F w (a := 147) rfl (j := 9) ⟨by decide, by decide⟩ (by decide) dX12_copy_12 ?_
  refine r_val (v := 0) (h18) ?_
  refine g_iast F w (a := 148) rfl (j := 9) ⟨by decide, by decide⟩ (by decide) dX12_copy_13 (fun H locs w => ?_)
  rw [st_same (h19)] at w
  refine lv_iinc (v := 10) (lv' := [(2, .int 10), (0, .ref (B + 148)), (1, .ref (B + 147))]) hx hb dX12_copy_14 hl (k := 0) rfl (by decide) (by decide) rfl (fun ls hl => ?_)
  refine lv_goto (tgt := 2) hx hb dX12_copy_17 (by decide) ?_
  refine lv_iload_n hx hb dX12_copy_2 rfl (lv_at hl 0 rfl) ?_
  refine lv_bipush (v := 28) hx hb dX12_copy_3 (by decide) ?_
  refine lv_icmp_ge (tgt := 20) hx hb dX12_copy_5 (by decide) (fun c1 => absurd c1 (by decide)) (fun _ => ?_)
  refine lv_aload_n hx hb dX12_copy_8 rfl (lv_at hl 1 rfl) ?_
  refine lv_iload_n hx hb dX12_copy_9 rfl (lv_at hl 0 rfl) ?_
  refine lv_aload_n hx hb dX12_copy_10 rfl (lv_at hl 2 rfl) ?_
  refine lv_iload_n hx hb dX12_copy_11 rfl (lv_at hl 0 rfl) ?_
  refine g_iald F w (a := 147) rfl (j := 10) ⟨by decide, by decide⟩ (by decide) dX12_copy_12 ?_
  refine r_val (v := 0) (h20) ?_
  refine g_iast F w (a := 148) rfl (j := 10) ⟨by decide, by decide⟩ (by decide) dX12_copy_13 (fun H locs w => ?_)
  rw [st_same (h21)] at w
  refine lv_iinc (v := 11) (lv' := [(2, .int 11), (0, .ref (B + 148)), (1, .ref (B + 147))]) hx hb dX12_copy_14 hl (k := 0) rfl (by decide) (by decide) rfl (fun ls hl => ?_)
  refine lv_goto (tgt := 2) hx hb dX12_copy_17 (by decide) ?_
  refine lv_iload_n hx hb dX12_copy_2 rfl (lv_at hl 0 rfl) ?_
  refine lv_bipush (v := 28) hx hb dX12_copy_3 (by decide) ?_
  refine lv_icmp_ge (tgt := 20) hx hb dX12_copy_5 (by decide) (fun c1 => absurd c1 (by decide)) (fun _ => ?_)
  refine lv_aload_n hx hb dX12_copy_8 rfl (lv_at hl 1 rfl) ?_
  refine lv_iload_n hx hb dX12_copy_9 rfl (lv_at hl 0 rfl) ?_
  refine lv_aload_n hx hb dX12_copy_10 rfl (lv_at hl 2 rfl) ?_
  refine lv_iload_n hx hb dX12_copy_11 rfl (lv_at hl 0 rfl) ?_
  refine g_iald F w (a := 147) rfl (j := 11) ⟨by decide, by decide⟩ (by decide) dX12_copy_12 ?_
  refine r_val (v := 0) (h22) ?_
  refine g_iast F w (a := 148) rfl (j := 11) ⟨by decide, by decide⟩ (by decide) dX12_copy_13 (fun H locs w => ?_)
  rw [st_same (h23)] at w
  refine lv_iinc (v := 12) (lv' := [(2, .int 12), (0, .ref (B + 148)), (1, .ref (B + 147))]) hx hb dX12_copy_14 hl (k := 0) rfl (by decide) (by decide) rfl (fun ls hl => ?_)
  refine lv_goto (tgt := 2) hx hb dX12_copy_17 (by decide) ?_
  refine lv_iload_n hx hb dX12_copy_2 rfl (lv_at hl 0 rfl) ?_
  refine lv_bipush (v := 28) hx hb dX12_copy_3 (by decide) ?_
  refine lv_icmp_ge (tgt := 20) hx hb dX12_copy_5 (by decide) (fun c1 => absurd c1 (by decide)) (fun _ => ?_)
  refine lv_aload_n hx hb dX12_copy_8 rfl (lv_at hl 1 rfl) ?_
  refine lv_iload_n hx hb dX12_copy_9 rfl (lv_at hl 0 rfl) ?_
  refine lv_aload_n hx hb dX12_copy_10 rfl (lv_at hl 2 rfl) ?_
  refine lv_iload_n hx hb dX12_copy_11 rfl (lv_at hl 0 rfl) ?_
  refine g_iald F w (a := 147) rfl (j := 12) ⟨by decide, by decide⟩ (by decide) dX12_copy_12 ?_
  refine r_val (v := 0) (h24) ?_
  refine g_iast F w (a := 148) rfl (j := 12) ⟨by decide, by decide⟩ (by decide) dX12_copy_13 (fun H locs w => ?_)
  rw [st_same (h25)] at w
  refine lv_iinc (v := 13) (lv' := [(2, .int 13), (0, .ref (B + 148)), (1, .ref (B + 147))]) hx hb dX12_copy_14 hl (k := 0) rfl (by decide) (by decide) rfl (fun ls hl => ?_)
  refine lv_goto (tgt := 2) hx hb dX12_copy_17 (by decide) ?_
  refine lv_iload_n hx hb dX12_copy_2 rfl (lv_at hl 0 rfl) ?_
  refine lv_bipush (v := 28) hx hb dX12_copy_3 (by decide) ?_
  refine lv_icmp_ge (tgt := 20) hx hb dX12_copy_5 (by decide) (fun c1 => absurd c1 (by decide)) (fun _ => ?_)
  refine lv_aload_n hx hb dX12_copy_8 rfl (lv_at hl 1 rfl) ?_
  refine lv_iload_n hx hb dX12_copy_9 rfl (lv_at hl 0 rfl) ?_
  refine lv_aload_n hx hb dX12_copy_10 rfl (lv_at hl 2 rfl) ?_
  refine lv_iload_n hx hb dX12_copy_11 rfl (lv_at hl 0 rfl) ?_
  refine g_iald F w (a := 147) rfl (j := 13) ⟨by decide, by decide⟩ (by decide) dX12_copy_12 ?_
  refine r_val (v := 0) (h26) ?_
  refine g_iast F w (a := 148) rfl (j := 13) ⟨by decide, by decide⟩ (by decide) dX12_copy_13 (fun H locs w => ?_)
  rw [st_same (h27)] at w
  refine lv_iinc (v := 14) (lv' := [(2, .int 14), (0, .ref (B + 148)), (1, .ref (B + 147))]) hx hb dX12_copy_14 hl (k := 0) rfl (by decide) (by decide) rfl (fun ls hl => ?_)
  refine lv_goto (tgt := 2) hx hb dX12_copy_17 (by decide) ?_
  refine lv_iload_n hx hb dX12_copy_2 rfl (lv_at hl 0 rfl) ?_
  refine lv_bipush (v := 28) hx hb dX12_copy_3 (by decide) ?_
  refine lv_icmp_ge (tgt := 20) hx hb dX12_copy_5 (by decide) (fun c1 => absurd c1 (by decide)) (fun _ => ?_)
  refine lv_aload_n hx hb dX12_copy_8 rfl (lv_at hl 1 rfl) ?_
  refine lv_iload_n hx hb dX12_copy_9 rfl (lv_at hl 0 rfl) ?_
  refine lv_aload_n hx hb dX12_copy_10 rfl (lv_at hl 2 rfl) ?_
  refine lv_iload_n hx hb dX12_copy_11 rfl (lv_at hl 0 rfl) ?_
  refine g_iald F w (a := 147) rfl (j := 14) ⟨by decide, by decide⟩ (by decide) dX12_copy_12 ?_
  refine r_val (v := 0) (h28) ?_
  refine g_iast F w (a := 148) rfl (j := 14) ⟨by decide, by decide⟩ (by decide) dX12_copy_13 (fun H locs w => ?_)
  rw [st_same (h29)] at w
  refine lv_iinc (v := 15) (lv' := [(2, .int 15), (0, .ref (B + 148)), (1, .ref (B + 147))]) hx hb dX12_copy_14 hl (k := 0) rfl (by decide) (by decide) rfl (fun ls hl => ?_)
  refine lv_goto (tgt := 2) hx hb dX12_copy_17 (by decide) ?_
  refine lv_iload_n hx hb dX12_copy_2 rfl (lv_at hl 0 rfl) ?_
  refine lv_bipush (v := 28) hx hb dX12_copy_3 (by decide) ?_
  refine lv_icmp_ge (tgt := 20) hx hb dX12_copy_5 (by decide) (fun c1 => absurd c1 (by decide)) (fun _ => ?_)
  refine lv_aload_n hx hb dX12_copy_8 rfl (lv_at hl 1 rfl) ?_
  refine lv_iload_n hx hb dX12_copy_9 rfl (lv_at hl 0 rfl) ?_
  refine lv_aload_n hx hb dX12_copy_10 rfl (lv_at hl 2 rfl) ?_
  refine lv_iload_n hx hb dX12_copy_11 rfl (lv_at hl 0 rfl) ?_
  refine g_iald F w (a := 147) rfl (j := 15) ⟨by decide, by decide⟩ (by decide) dX12_copy_12 ?_
  refine r_val (v := 0) (h30) ?_
  refine g_iast F w (a := 148) rfl (j := 15) ⟨by decide, by decide⟩ (by decide) dX12_copy_13 (fun H locs w => ?_)
  rw [st_same (h31)] at w
  refine lv_iinc (v := 16) (lv' := [(2, .int 16), (0, .ref (B + 148)), (1, .ref (B + 147))]) hx hb dX12_copy_14 hl (k := 0) rfl (by decide) (by decide) rfl (fun ls hl => ?_)
  refine lv_goto (tgt := 2) hx hb dX12_copy_17 (by decide) ?_
  refine lv_iload_n hx hb dX12_copy_2 rfl (lv_at hl 0 rfl) ?_
  refine lv_bipush (v := 28) hx hb dX12_copy_3 (by decide) ?_
  refine lv_icmp_ge (tgt := 20) hx hb dX12_copy_5 (by decide) (fun c1 => absurd c1 (by decide)) (fun _ => ?_)
  refine lv_aload_n hx hb dX12_copy_8 rfl (lv_at hl 1 rfl) ?_
  refine lv_iload_n hx hb dX12_copy_9 rfl (lv_at hl 0 rfl) ?_
  refine lv_aload_n hx hb dX12_copy_10 rfl (lv_at hl 2 rfl) ?_
  refine lv_iload_n hx hb dX12_copy_11 rfl (lv_at hl 0 rfl) ?_
  refine g_iald F w (a := 147) rfl (j := 16) ⟨by decide, by decide⟩ (by decide) dX12_copy_12 ?_
  refine r_val (v := 0) (h32) ?_
  refine g_iast F w (a := 148) rfl (j := 16) ⟨by decide, by decide⟩ (by decide) dX12_copy_13 (fun H locs w => ?_)
  rw [st_same (h33)] at w
  refine lv_iinc (v := 17) (lv' := [(2, .int 17), (0, .ref (B + 148)), (1, .ref (B + 147))]) hx hb dX12_copy_14 hl (k := 0) rfl (by decide) (by decide) rfl (fun ls hl => ?_)
  refine lv_goto (tgt := 2) hx hb dX12_copy_17 (by decide) ?_
  refine lv_iload_n hx hb dX12_copy_2 rfl (lv_at hl 0 rfl) ?_
  refine lv_bipush (v := 28) hx hb dX12_copy_3 (by decide) ?_
  refine lv_icmp_ge (tgt := 20) hx hb dX12_copy_5 (by decide) (fun c1 => absurd c1 (by decide)) (fun _ => ?_)
  refine lv_aload_n hx hb dX12_copy_8 rfl (lv_at hl 1 rfl) ?_
  refine lv_iload_n hx hb dX12_copy_9 rfl (lv_at hl 0 rfl) ?_
  refine lv_aload_n hx hb dX12_copy_10 rfl (lv_at hl 2 rfl) ?_
  refine lv_iload_n hx hb dX12_copy_11 rfl (lv_at hl 0 rfl) ?_
  refine g_iald F w (a := 147) rfl (j := 17) ⟨by decide, by decide⟩ (by decide) dX12_copy_12 ?_
  refine r_val (v := 0) (h34) ?_
  refine g_iast F w (a := 148) rfl (j := 17) ⟨by decide, by decide⟩ (by decide) dX12_copy_13 (fun H locs w => ?_)
  rw [st_same (h35)] at w
  refine lv_iinc (v := 18) (lv' := [(2, .int 18), (0, .ref (B + 148)), (1, .ref (B + 147))]) hx hb dX12_copy_14 hl (k := 0) rfl (by decide) (by decide) rfl (fun ls hl => ?_)
  refine lv_goto (tgt := 2) hx hb dX12_copy_17 (by decide) ?_
  refine lv_iload_n hx hb dX12_copy_2 rfl (lv_at hl 0 rfl) ?_
  refine lv_bipush (v := 28) hx hb dX12_copy_3 (by decide) ?_
  refine lv_icmp_ge (tgt := 20) hx hb dX12_copy_5 (by decide) (fun c1 => absurd c1 (by decide)) (fun _ => ?_)
  refine lv_aload_n hx hb dX12_copy_8 rfl (lv_at hl 1 rfl) ?_
  refine lv_iload_n hx hb dX12_copy_9 rfl (lv_at hl 0 rfl) ?_
  refine lv_aload_n hx hb dX12_copy_10 rfl (lv_at hl 2 rfl) ?_
  refine lv_iload_n hx hb dX12_copy_11 rfl (lv_at hl 0 rfl) ?_
  refine g_iald F w (a := 147) rfl (j := 18) ⟨by decide, by decide⟩ (by decide) dX12_copy_12 ?_
  refine r_val (v := 0) (h36) ?_
  refine g_iast F w (a := 148) rfl (j := 18) ⟨by decide, by decide⟩ (by decide) dX12_copy_13 (fun H locs w => ?_)
  rw [st_same (h37)] at w
  refine lv_iinc (v := 19) (lv' := [(2, .int 19), (0, .ref (B + 148)), (1, .ref (B + 147))]) hx hb dX12_copy_14 hl (k := 0) rfl (by decide) (by decide) rfl (fun ls hl => ?_)
  refine lv_goto (tgt := 2) hx hb dX12_copy_17 (by decide) ?_
  refine lv_iload_n hx hb dX12_copy_2 rfl (lv_at hl 0 rfl) ?_
  refine lv_bipush (v := 28) hx hb dX12_copy_3 (by decide) ?_
  refine lv_icmp_ge (tgt := 20) hx hb dX12_copy_5 (by decide) (fun c1 => absurd c1 (by decide)) (fun _ => ?_)
  refine lv_aload_n hx hb dX12_copy_8 rfl (lv_at hl 1 rfl) ?_
  refine lv_iload_n hx hb dX12_copy_9 rfl (lv_at hl 0 rfl) ?_
  refine lv_aload_n hx hb dX12_copy_10 rfl (lv_at hl 2 rfl) ?_
  refine lv_iload_n hx hb dX12_copy_11 rfl (lv_at hl 0 rfl) ?_
  refine g_iald F w (a := 147) rfl (j := 19) ⟨by decide, by decide⟩ (by decide) dX12_copy_12 ?_
  refine r_val (v := 0) (h38) ?_
  refine g_iast F w (a := 148) rfl (j := 19) ⟨by decide, by decide⟩ (by decide) dX12_copy_13 (fun H locs w => ?_)
  rw [st_same (h39)] at w
  refine lv_iinc (v := 20) (lv' := [(2, .int 20), (0, .ref (B + 148)), (1, .ref (B + 147))]) hx hb dX12_copy_14 hl (k := 0) rfl (by decide) (by decide) rfl (fun ls hl => ?_)
  refine lv_goto (tgt := 2) hx hb dX12_copy_17 (by decide) ?_
  refine lv_iload_n hx hb dX12_copy_2 rfl (lv_at hl 0 rfl) ?_
  refine lv_bipush (v := 28) hx hb dX12_copy_3 (by decide) ?_
  refine lv_icmp_ge (tgt := 20) hx hb dX12_copy_5 (by decide) (fun c1 => absurd c1 (by decide)) (fun _ => ?_)
  refine lv_aload_n hx hb dX12_copy_8 rfl (lv_at hl 1 rfl) ?_
  refine lv_iload_n hx hb dX12_copy_9 rfl (lv_at hl 0 rfl) ?_
  refine lv_aload_n hx hb dX12_copy_10 rfl (lv_at hl 2 rfl) ?_
  refine lv_iload_n hx hb dX12_copy_11 rfl (lv_at hl 0 rfl) ?_
  refine g_iald F w (a := 147) rfl (j := 20) ⟨by decide, by decide⟩ (by decide) dX12_copy_12 ?_
  refine r_val (v := 0) (h40) ?_
  refine g_iast F w (a := 148) rfl (j := 20) ⟨by decide, by decide⟩ (by decide) dX12_copy_13 (fun H locs w => ?_)
  rw [st_same (h41)] at w
  refine lv_iinc (v := 21) (lv' := [(2, .int 21), (0, .ref (B + 148)), (1, .ref (B + 147))]) hx hb dX12_copy_14 hl (k := 0) rfl (by decide) (by decide) rfl (fun ls hl => ?_)
  refine lv_goto (tgt := 2) hx hb dX12_copy_17 (by decide) ?_
  refine lv_iload_n hx hb dX12_copy_2 rfl (lv_at hl 0 rfl) ?_
  refine lv_bipush (v := 28) hx hb dX12_copy_3 (by decide) ?_
  refine lv_icmp_ge (tgt := 20) hx hb dX12_copy_5 (by decide) (fun c1 => absurd c1 (by decide)) (fun _ => ?_)
  refine lv_aload_n hx hb dX12_copy_8 rfl (lv_at hl 1 rfl) ?_
  refine lv_iload_n hx hb dX12_copy_9 rfl (lv_at hl 0 rfl) ?_
  refine lv_aload_n hx hb dX12_copy_10 rfl (lv_at hl 2 rfl) ?_
  refine lv_iload_n hx hb dX12_copy_11 rfl (lv_at hl 0 rfl) ?_
  refine g_iald F w (a := 147) rfl (j := 21) ⟨by decide, by decide⟩ (by decide) dX12_copy_12 ?_
  refine r_val (v := 0) (h42) ?_
  refine g_iast F w (a := 148) rfl (j := 21) ⟨by decide, by decide⟩ (by decide) dX12_copy_13 (fun H locs w => ?_)
  rw [st_same (h43)] at w
  refine lv_iinc (v := 22) (lv' := [(2, .int 22), (0, .ref (B + 148)), (1, .ref (B + 147))]) hx hb dX12_copy_14 hl (k := 0) rfl (by decide) (by decide) rfl (fun ls hl => ?_)
  refine lv_goto (tgt := 2) hx hb dX12_copy_17 (by decide) ?_
  refine lv_iload_n hx hb dX12_copy_2 rfl (lv_at hl 0 rfl) ?_
  refine lv_bipush (v := 28) hx hb dX12_copy_3 (by decide) ?_
  refine lv_icmp_ge (tgt := 20) hx hb dX12_copy_5 (by decide) (fun c1 => absurd c1 (by decide)) (fun _ => ?_)
  refine lv_aload_n hx hb dX12_copy_8 rfl (lv_at hl 1 rfl) ?_
  refine lv_iload_n hx hb dX12_copy_9 rfl (lv_at hl 0 rfl) ?_
  refine lv_aload_n hx hb dX12_copy_10 rfl (lv_at hl 2 rfl) ?_
  refine lv_iload_n hx hb dX12_copy_11 rfl (lv_at hl 0 rfl) ?_
  refine g_iald F w (a := 147) rfl (j := 22) ⟨by decide, by decide⟩ (by decide) dX12_copy_12 ?_
  refine r_val (v := 0) (h44) ?_
  refine g_iast F w (a := 148) rfl (j := 22) ⟨by decide, by decide⟩ (by decide) dX12_copy_13 (fun H locs w => ?_)
  rw [st_same (h45)] at w
  refine lv_iinc (v := 23) (lv' := [(2, .int 23), (0, .ref (B + 148)), (1, .ref (B + 147))]) hx hb dX12_copy_14 hl (k := 0) rfl (by decide) (by decide) rfl (fun ls hl => ?_)
  refine lv_goto (tgt := 2) hx hb dX12_copy_17 (by decide) ?_
  refine lv_iload_n hx hb dX12_copy_2 rfl (lv_at hl 0 rfl) ?_
  refine lv_bipush (v := 28) hx hb dX12_copy_3 (by decide) ?_
  refine lv_icmp_ge (tgt := 20) hx hb dX12_copy_5 (by decide) (fun c1 => absurd c1 (by decide)) (fun _ => ?_)
  refine lv_aload_n hx hb dX12_copy_8 rfl (lv_at hl 1 rfl) ?_
  refine lv_iload_n hx hb dX12_copy_9 rfl (lv_at hl 0 rfl) ?_
  refine lv_aload_n hx hb dX12_copy_10 rfl (lv_at hl 2 rfl) ?_
  refine lv_iload_n hx hb dX12_copy_11 rfl (lv_at hl 0 rfl) ?_
  refine g_iald F w (a := 147) rfl (j := 23) ⟨by decide, by decide⟩ (by decide) dX12_copy_12 ?_
  refine r_val (v := 0) (h46) ?_
  refine g_iast F w (a := 148) rfl (j := 23) ⟨by decide, by decide⟩ (by decide) dX12_copy_13 (fun H locs w => ?_)
  rw [st_same (h47)] at w
  refine lv_iinc (v := 24) (lv' := [(2, .int 24), (0, .ref (B + 148)), (1, .ref (B + 147))]) hx hb dX12_copy_14 hl (k := 0) rfl (by decide) (by decide) rfl (fun ls hl => ?_)
  refine lv_goto (tgt := 2) hx hb dX12_copy_17 (by decide) ?_
  refine lv_iload_n hx hb dX12_copy_2 rfl (lv_at hl 0 rfl) ?_
  refine lv_bipush (v := 28) hx hb dX12_copy_3 (by decide) ?_
  refine lv_icmp_ge (tgt := 20) hx hb dX12_copy_5 (by decide) (fun c1 => absurd c1 (by decide)) (fun _ => ?_)
  refine lv_aload_n hx hb dX12_copy_8 rfl (lv_at hl 1 rfl) ?_
  refine lv_iload_n hx hb dX12_copy_9 rfl (lv_at hl 0 rfl) ?_
  refine lv_aload_n hx hb dX12_copy_10 rfl (lv_at hl 2 rfl) ?_
  refine lv_iload_n hx hb dX12_copy_11 rfl (lv_at hl 0 rfl) ?_
  refine g_iald F w (a := 147) rfl (j := 24) ⟨by decide, by decide⟩ (by decide) dX12_copy_12 ?_
  refine r_val (v := 0) (h48) ?_
  refine g_iast F w (a := 148) rfl (j := 24) ⟨by decide, by decide⟩ (by decide) dX12_copy_13 (fun H locs w => ?_)
  rw [st_same (h49)] at w
  refine lv_iinc (v := 25) (lv' := [(2, .int 25), (0, .ref (B + 148)), (1, .ref (B + 147))]) hx hb dX12_copy_14 hl (k := 0) rfl (by decide) (by decide) rfl (fun ls hl => ?_)
  refine lv_goto (tgt := 2) hx hb dX12_copy_17 (by decide) ?_
  refine lv_iload_n hx hb dX12_copy_2 rfl (lv_at hl 0 rfl) ?_
  refine lv_bipush (v := 28) hx hb dX12_copy_3 (by decide) ?_
  refine lv_icmp_ge (tgt := 20) hx hb dX12_copy_5 (by decide) (fun c1 => absurd c1 (by decide)) (fun _ => ?_)
  refine lv_aload_n hx hb dX12_copy_8 rfl (lv_at hl 1 rfl) ?_
  refine lv_iload_n hx hb dX12_copy_9 rfl (lv_at hl 0 rfl) ?_
  refine lv_aload_n hx hb dX12_copy_10 rfl (lv_at hl 2 rfl) ?_
  refine lv_iload_n hx hb dX12_copy_11 rfl (lv_at hl 0 rfl) ?_
  refine g_iald F w (a := 147) rfl (j := 25) ⟨by decide, by decide⟩ (by decide) dX12_copy_12 ?_
  refine r_val (v := 0) (h50) ?_
  refine g_iast F w (a := 148) rfl (j := 25) ⟨by decide, by decide⟩ (by decide) dX12_copy_13 (fun H locs w => ?_)
  rw [st_same (h51)] at w
  refine lv_iinc (v := 26) (lv' := [(2, .int 26), (0, .ref (B + 148)), (1, .ref (B + 147))]) hx hb dX12_copy_14 hl (k := 0) rfl (by decide) (by decide) rfl (fun ls hl => ?_)
  refine lv_goto (tgt := 2) hx hb dX12_copy_17 (by decide) ?_
  refine lv_iload_n hx hb dX12_copy_2 rfl (lv_at hl 0 rfl) ?_
  refine lv_bipush (v := 28) hx hb dX12_copy_3 (by decide) ?_
  refine lv_icmp_ge (tgt := 20) hx hb dX12_copy_5 (by decide) (fun c1 => absurd c1 (by decide)) (fun _ => ?_)
  refine lv_aload_n hx hb dX12_copy_8 rfl (lv_at hl 1 rfl) ?_
  refine lv_iload_n hx hb dX12_copy_9 rfl (lv_at hl 0 rfl) ?_
  refine lv_aload_n hx hb dX12_copy_10 rfl (lv_at hl 2 rfl) ?_
  refine lv_iload_n hx hb dX12_copy_11 rfl (lv_at hl 0 rfl) ?_
  refine g_iald F w (a := 147) rfl (j := 26) ⟨by decide, by decide⟩ (by decide) dX12_copy_12 ?_
  refine r_val (v := 0) (h52) ?_
  refine g_iast F w (a := 148) rfl (j := 26) ⟨by decide, by decide⟩ (by decide) dX12_copy_13 (fun H locs w => ?_)
  rw [st_same (h53)] at w
  refine lv_iinc (v := 27) (lv' := [(2, .int 27), (0, .ref (B + 148)), (1, .ref (B + 147))]) hx hb dX12_copy_14 hl (k := 0) rfl (by decide) (by decide) rfl (fun ls hl => ?_)
  refine lv_goto (tgt := 2) hx hb dX12_copy_17 (by decide) ?_
  refine lv_iload_n hx hb dX12_copy_2 rfl (lv_at hl 0 rfl) ?_
  refine lv_bipush (v := 28) hx hb dX12_copy_3 (by decide) ?_
  refine lv_icmp_ge (tgt := 20) hx hb dX12_copy_5 (by decide) (fun c1 => absurd c1 (by decide)) (fun _ => ?_)
  refine lv_aload_n hx hb dX12_copy_8 rfl (lv_at hl 1 rfl) ?_
  refine lv_iload_n hx hb dX12_copy_9 rfl (lv_at hl 0 rfl) ?_
  refine lv_aload_n hx hb dX12_copy_10 rfl (lv_at hl 2 rfl) ?_
  refine lv_iload_n hx hb dX12_copy_11 rfl (lv_at hl 0 rfl) ?_
  refine g_iald F w (a := 147) rfl (j := 27) ⟨by decide, by decide⟩ (by decide) dX12_copy_12 ?_
  refine r_val (v := 0) (h54) ?_
  refine g_iast F w (a := 148) rfl (j := 27) ⟨by decide, by decide⟩ (by decide) dX12_copy_13 (fun H locs w => ?_)
  rw [st_same (h55)] at w
  refine lv_iinc (v := 28) (lv' := [(2, .int 28), (0, .ref (B + 148)), (1, .ref (B + 147))]) hx hb dX12_copy_14 hl (k := 0) rfl (by decide) (by decide) rfl (fun ls hl => ?_)
  refine lv_goto (tgt := 2) hx hb dX12_copy_17 (by decide) ?_
  refine lv_iload_n hx hb dX12_copy_2 rfl (lv_at hl 0 rfl) ?_
  refine lv_bipush (v := 28) hx hb dX12_copy_3 (by decide) ?_
  refine lv_icmp_ge (tgt := 20) hx hb dX12_copy_5 (by decide) (fun _ => ?_) (fun c1 => absurd c1 (by decide))
  exact e_v F w hr hlocks rfl dX12_copy_20
theorem tk_X12_copy : Cond.code yX12_copy cX12_copy 3 none ∈ TB := tbm (tc5 (List.mem_of_getElem? (i := 197) rfl)) rfl
theorem gc_X12_copy : GoodIn TB (cw yX12_copy cX12_copy 3 none) := goodIn_c2 tk_X12_copy
theorem tb_366 : Cond.methodLink "ToneLinesModel" 162 yX12_copy ∈ TB := tbm (tc5 (List.mem_of_getElem? (i := 195) rfl)) rfl
theorem tb_367 : Cond.static yX12_copy ∈ TB := tbm (tc5 (List.mem_of_getElem? (i := 196) rfl)) rfl
theorem gs_X12_162 : GoodIn TB (va_wsS RX12 162 yX12_copy (cw yX12_copy cX12_copy 3 none)) := goodIn_3 tb_366 tb_367 tb_150 gc_X12_copy
theorem hs_X12_copy : yX12_copy.cls ≠ "java/lang/invoke/MethodHandle" ∧ yX12_copy.cls ≠ "java/lang/invoke/VarHandle" ∧ (parseMethodDescriptor yX12_copy.desc).map (fun d => d.parameters.length) = some 2 := by decide +kernel
theorem dX12_derives_11 : decode cX12_derives 11 = .ok (.iconst 0, 1) := by decide +kernel
theorem dX12_derives_12 : decode cX12_derives 12 = .ok (.istore_n 2, 1) := by decide +kernel
theorem dX12_derives_13 : decode cX12_derives 13 = .ok (.iconst 0, 1) := by decide +kernel
theorem dX12_derives_14 : decode cX12_derives 14 = .ok (.istore_n 3, 1) := by decide +kernel
theorem dX12_derives_15 : decode cX12_derives 15 = .ok (.iload_n 3, 1) := by decide +kernel
theorem dX12_derives_16 : decode cX12_derives 16 = .ok (.iload_n 1, 1) := by decide +kernel
theorem dX12_derives_17 : decode cX12_derives 17 = .ok (.if_icmp .ge 17, 3) := by decide +kernel
theorem dX12_derives_34 : decode cX12_derives 34 = .ok (.iload_n 2, 1) := by decide +kernel
theorem dX12_derives_35 : decode cX12_derives 35 = .ok (.ireturn, 1) := by decide +kernel
set_option maxRecDepth 4000 in
theorem c_X12_derives_212 {l : Launch} {D : va_G} {B : Nat} {cy : Nat → ClassId} {M : Mem} (h0 : M.1 147 0 = 0) (h1 : M.1 148 0 = 0) (h2 : M.1 147 1 = 0) (h3 : M.1 148 1 = 0) (h4 : M.1 147 2 = 0) (h5 : M.1 148 2 = 0) (h6 : M.1 147 3 = 0) (h7 : M.1 148 3 = 0) (h8 : M.1 147 4 = 0) (h9 : M.1 148 4 = 0) (h10 : M.1 147 5 = 0) (h11 : M.1 148 5 = 0) (h12 : M.1 147 6 = 0) (h13 : M.1 148 6 = 0) (h14 : M.1 147 7 = 0) (h15 : M.1 148 7 = 0) (h16 : M.1 147 8 = 0) (h17 : M.1 148 8 = 0) (h18 : M.1 147 9 = 0) (h19 : M.1 148 9 = 0) (h20 : M.1 147 10 = 0) (h21 : M.1 148 10 = 0) (h22 : M.1 147 11 = 0) (h23 : M.1 148 11 = 0) (h24 : M.1 147 12 = 0) (h25 : M.1 148 12 = 0) (h26 : M.1 147 13 = 0) (h27 : M.1 148 13 = 0) (h28 : M.1 147 14 = 0) (h29 : M.1 148 14 = 0) (h30 : M.1 147 15 = 0) (h31 : M.1 148 15 = 0) (h32 : M.1 147 16 = 0) (h33 : M.1 148 16 = 0) (h34 : M.1 147 17 = 0) (h35 : M.1 148 17 = 0) (h36 : M.1 147 18 = 0) (h37 : M.1 148 18 = 0) (h38 : M.1 147 19 = 0) (h39 : M.1 148 19 = 0) (h40 : M.1 147 20 = 0) (h41 : M.1 148 20 = 0) (h42 : M.1 147 21 = 0) (h43 : M.1 148 21 = 0) (h44 : M.1 147 22 = 0) (h45 : M.1 148 22 = 0) (h46 : M.1 147 23 = 0) (h47 : M.1 148 23 = 0) (h48 : M.1 147 24 = 0) (h49 : M.1 148 24 = 0) (h50 : M.1 147 25 = 0) (h51 : M.1 148 25 = 0) (h52 : M.1 147 26 = 0) (h53 : M.1 148 26 = 0) (h54 : M.1 147 27 = 0) (h55 : M.1 148 27 = 0) : Ci l D B cy yX12_derives cX12_derives 4 (some .int) 1 22 [.ref (B + 146), .int 0] M (fun r M1 => r = 0 ∧ M1 = M) := by
  refine s_any (by decide) (Nat.le_of_ble_eq_true rfl) ?_
  intro p e s m below meth c ls F hr hlocks w hl
  have F : CallFix p m c cX12_derives 4 s _ TB RX12 := F
  have hx := F.1
  have hb := F.2.1
  have hl : lv_has ls 4 [(0, .ref (B + 146)), (1, .int 0)] := hl
  refine lv_aload_n hx hb dX12_derives_0 rfl (lv_at hl 0 rfl) ?_
  refine f_12_2 F w (a := 146) rfl tb_127 dX12_derives_1 ?_
  refine lv_aload_n hx hb dX12_derives_4 rfl (lv_at hl 0 rfl) ?_
  refine f_12_1 F w (a := 146) rfl tb_126 dX12_derives_5 ?_
  refine x_Sv F w (As := [.ref (B + 148), .ref (B + 147)]) (rest := []) (c_X12_copy_211 (h0) (h1) (h2) (h3) (h4) (h5) (h6) (h7) (h8) (h9) (h10) (h11) (h12) (h13) (h14) (h15) (h16) (h17) (h18) (h19) (h20) (h21) (h22) (h23) (h24) (h25) (h26) (h27) (h28) (h29) (h30) (h31) (h32) (h33) (h34) (h35) (h36) (h37) (h38) (h39) (h40) (h41) (h42) (h43) (h44) (h45) (h46) (h47) (h48) (h49) (h50) (h51) (h52) (h53) (h54) (h55)) gs_X12_162 hs_X12_copy ⟨Nat.le_of_ble_eq_true rfl, Nat.le_of_ble_eq_true rfl⟩ hl.1 rfl (Nat.le_of_ble_eq_true rfl) ⟨Nat.zero_le _, Nat.zero_le _⟩ dX12_derives_8 (fun H locs w => ?_)
  refine lv_iconst (v := 0) hx hb dX12_derives_11 (by decide) ?_
  refine lv_istore_n (lv' := [(2, .int 0), (0, .ref (B + 146)), (1, .int 0)]) hx hb dX12_derives_12 rfl hl (by decide) rfl (fun ls hl => ?_)
  refine lv_iconst (v := 0) hx hb dX12_derives_13 (by decide) ?_
  refine lv_istore_n (lv' := [(3, .int 0), (2, .int 0), (0, .ref (B + 146)), (1, .int 0)]) hx hb dX12_derives_14 rfl hl (by decide) rfl (fun ls hl => ?_)
  refine lv_iload_n hx hb dX12_derives_15 rfl (lv_at hl 0 rfl) ?_
  refine lv_iload_n hx hb dX12_derives_16 rfl (lv_at hl 3 rfl) ?_
  refine lv_icmp_ge (tgt := 34) hx hb dX12_derives_17 (by decide) (fun _ => ?_) (fun c1 => absurd c1 (by decide))
  refine lv_iload_n hx hb dX12_derives_34 rfl (lv_at hl 1 rfl) ?_
  exact e_i F w hr hlocks ⟨rfl, rfl⟩ dX12_derives_35
theorem tk_X12_derives : Cond.code yX12_derives cX12_derives 4 (some .int) ∈ TB := tbm (tc6 (List.mem_of_getElem? (i := 141) rfl)) rfl
theorem gc_X12_derives : GoodIn TB (cw yX12_derives cX12_derives 4 (some .int)) := goodIn_c2 tk_X12_derives
theorem tb_368 : Cond.methodLink "ToneLinesModel" 255 yX12_derives ∈ TB := tbm (tc6 (List.mem_of_getElem? (i := 138) rfl)) rfl
theorem tb_369 : Cond.instanceMethod yX12_derives ∈ TB := tbm (tc6 (List.mem_of_getElem? (i := 140) rfl)) rfl
theorem tb_370 : Cond.selects "ToneLinesModel" yX12_derives yX12_derives ∈ TB := tbp (List.mem_of_getElem? (i := 71) rfl) rfl
theorem gv_X12_255 : GoodIn TB (wsV RX12 255 RX12 yX12_derives (cw yX12_derives cX12_derives 4 (some .int))) := goodIn_4 tb_368 tb_369 tb_370 tb_150 gc_X12_derives
theorem hv_X12_derives : yX12_derives.cls = RX12 ∧ yX12_derives.cls ≠ "java/lang/invoke/MethodHandle" ∧ yX12_derives.cls ≠ "java/lang/invoke/VarHandle" ∧ (parseMethodDescriptor yX12_derives.desc).map (fun d => d.parameters.length) = some 1 := by decide +kernel
theorem dX12_derive_18 : decode cX12_derive 18 = .ok (.invokevirtual 252, 3) := by decide +kernel
theorem dX12_takes_0 : decode cX12_takes 0 = .ok (.iload_n 1, 1) := by decide +kernel
theorem dX12_takes_1 : decode cX12_takes 1 = .ok (.ifCond .le 18, 3) := by decide +kernel
theorem dX12_takes_19 : decode cX12_takes 19 = .ok (.iload_n 1, 1) := by decide +kernel
theorem dX12_takes_20 : decode cX12_takes 20 = .ok (.ireturn, 1) := by decide +kernel
set_option maxRecDepth 4000 in
theorem c_X12_takes_213 {l : Launch} {D : va_G} {B : Nat} {cy : Nat → ClassId} {M : Mem} : Ci l D B cy yX12_takes cX12_takes 2 (some .int) 0 0 [.ref (B + 146), .int 0] M (fun r M1 => r = 0 ∧ M1 = M) := by
  refine s_any (by decide) (Nat.le_of_ble_eq_true rfl) ?_
  intro p e s m below meth c ls F hr hlocks w hl
  have F : CallFix p m c cX12_takes 2 s _ TB RX12 := F
  have hx := F.1
  have hb := F.2.1
  have hl : lv_has ls 2 [(0, .ref (B + 146)), (1, .int 0)] := hl
  refine lv_iload_n hx hb dX12_takes_0 rfl (lv_at hl 1 rfl) ?_
  refine lv_if_le (tgt := 19) hx hb dX12_takes_1 (by decide) (fun _ => ?_) (fun c1 => absurd c1 (by decide))
  refine lv_iload_n hx hb dX12_takes_19 rfl (lv_at hl 1 rfl) ?_
  exact e_i F w hr hlocks ⟨rfl, rfl⟩ dX12_takes_20
theorem tk_X12_takes : Cond.code yX12_takes cX12_takes 2 (some .int) ∈ TB := tbm (tc6 (List.mem_of_getElem? (i := 133) rfl)) rfl
theorem gc_X12_takes : GoodIn TB (cw yX12_takes cX12_takes 2 (some .int)) := goodIn_c2 tk_X12_takes
theorem tb_371 : Cond.methodLink "ToneLinesModel" 252 yX12_takes ∈ TB := tbm (tc6 (List.mem_of_getElem? (i := 130) rfl)) rfl
theorem tb_372 : Cond.instanceMethod yX12_takes ∈ TB := tbm (tc6 (List.mem_of_getElem? (i := 132) rfl)) rfl
theorem tb_373 : Cond.selects "ToneLinesModel" yX12_takes yX12_takes ∈ TB := tbp (List.mem_of_getElem? (i := 70) rfl) rfl
theorem gv_X12_252 : GoodIn TB (wsV RX12 252 RX12 yX12_takes (cw yX12_takes cX12_takes 2 (some .int))) := goodIn_4 tb_371 tb_372 tb_373 tb_150 gc_X12_takes
theorem hv_X12_takes : yX12_takes.cls = RX12 ∧ yX12_takes.cls ≠ "java/lang/invoke/MethodHandle" ∧ yX12_takes.cls ≠ "java/lang/invoke/VarHandle" ∧ (parseMethodDescriptor yX12_takes.desc).map (fun d => d.parameters.length) = some 1 := by decide +kernel
theorem dX12_derive_21 : decode cX12_derive 21 = .ok (.goto 4, 3) := by decide +kernel
set_option maxRecDepth 4000 in
theorem c_X12_derive_214 {l : Launch} {D : va_G} {B : Nat} {cy : Nat → ClassId} {M : Mem} (h0 : M.1 146 5 = 0) (h1 : M.1 147 0 = 0) (h2 : M.1 148 0 = 0) (h3 : M.1 147 1 = 0) (h4 : M.1 148 1 = 0) (h5 : M.1 147 2 = 0) (h6 : M.1 148 2 = 0) (h7 : M.1 147 3 = 0) (h8 : M.1 148 3 = 0) (h9 : M.1 147 4 = 0) (h10 : M.1 148 4 = 0) (h11 : M.1 147 5 = 0) (h12 : M.1 148 5 = 0) (h13 : M.1 147 6 = 0) (h14 : M.1 148 6 = 0) (h15 : M.1 147 7 = 0) (h16 : M.1 148 7 = 0) (h17 : M.1 147 8 = 0) (h18 : M.1 148 8 = 0) (h19 : M.1 147 9 = 0) (h20 : M.1 148 9 = 0) (h21 : M.1 147 10 = 0) (h22 : M.1 148 10 = 0) (h23 : M.1 147 11 = 0) (h24 : M.1 148 11 = 0) (h25 : M.1 147 12 = 0) (h26 : M.1 148 12 = 0) (h27 : M.1 147 13 = 0) (h28 : M.1 148 13 = 0) (h29 : M.1 147 14 = 0) (h30 : M.1 148 14 = 0) (h31 : M.1 147 15 = 0) (h32 : M.1 148 15 = 0) (h33 : M.1 147 16 = 0) (h34 : M.1 148 16 = 0) (h35 : M.1 147 17 = 0) (h36 : M.1 148 17 = 0) (h37 : M.1 147 18 = 0) (h38 : M.1 148 18 = 0) (h39 : M.1 147 19 = 0) (h40 : M.1 148 19 = 0) (h41 : M.1 147 20 = 0) (h42 : M.1 148 20 = 0) (h43 : M.1 147 21 = 0) (h44 : M.1 148 21 = 0) (h45 : M.1 147 22 = 0) (h46 : M.1 148 22 = 0) (h47 : M.1 147 23 = 0) (h48 : M.1 148 23 = 0) (h49 : M.1 147 24 = 0) (h50 : M.1 148 24 = 0) (h51 : M.1 147 25 = 0) (h52 : M.1 148 25 = 0) (h53 : M.1 147 26 = 0) (h54 : M.1 148 26 = 0) (h55 : M.1 147 27 = 0) (h56 : M.1 148 27 = 0) : Ci l D B cy yX12_derive cX12_derive 2 (some .int) 2 45 [.ref (B + 146), .int 0] M (fun r M1 => r = 0 ∧ M1 = M) := by
  refine s_any (by decide) (Nat.le_of_ble_eq_true rfl) ?_
  intro p e s m below meth c ls F hr hlocks w hl
  have F : CallFix p m c cX12_derive 2 s _ TB RX12 := F
  have hx := F.1
  have hb := F.2.1
  have hl : lv_has ls 2 [(0, .ref (B + 146)), (1, .int 0)] := hl
  refine lv_iload_n hx hb dX12_derive_0 rfl (lv_at hl 1 rfl) ?_
  refine lv_iconst (v := 0) hx hb dX12_derive_1 (by decide) ?_
  refine lv_aload_n hx hb dX12_derive_2 rfl (lv_at hl 0 rfl) ?_
  refine f_12_5 F w (a := 146) rfl tb_227 dX12_derive_3 ?_
  refine r_val (v := 0) (h0) ?_
  refine x_Si F w (As := [.int 0, .int 0, .int 0]) (rest := []) (c_X12_in_69) gs_X12_55 hs_X12_in ⟨Nat.le_of_ble_eq_true rfl, Nat.le_of_ble_eq_true rfl⟩ hl.1 rfl (Nat.le_of_ble_eq_true rfl) ⟨Nat.zero_le _, Nat.zero_le _⟩ dX12_derive_6 (fun H locs w => ?_)
  refine lv_if_eq (tgt := 24) hx hb dX12_derive_9 (by decide) (fun c1 => absurd c1 (by decide)) (fun _ => ?_)
  refine lv_aload_n hx hb dX12_derive_12 rfl (lv_at hl 0 rfl) ?_
  refine lv_aload_n hx hb dX12_derive_13 rfl (lv_at hl 0 rfl) ?_
  refine lv_iload_n hx hb dX12_derive_14 rfl (lv_at hl 1 rfl) ?_
  refine x_Vi F w (As := [.int 0]) (rest := [.ref (B + 146)]) (a := 146) (by decide) (sh_12 rfl _ _) rfl (c_X12_derives_212 (h1) (h2) (h3) (h4) (h5) (h6) (h7) (h8) (h9) (h10) (h11) (h12) (h13) (h14) (h15) (h16) (h17) (h18) (h19) (h20) (h21) (h22) (h23) (h24) (h25) (h26) (h27) (h28) (h29) (h30) (h31) (h32) (h33) (h34) (h35) (h36) (h37) (h38) (h39) (h40) (h41) (h42) (h43) (h44) (h45) (h46) (h47) (h48) (h49) (h50) (h51) (h52) (h53) (h54) (h55) (h56)) gv_X12_255 hv_X12_derives ⟨Nat.le_of_ble_eq_true rfl, Nat.le_of_ble_eq_true rfl⟩ hl.1 rfl (Nat.le_of_ble_eq_true rfl) ⟨Nat.zero_le _, Nat.zero_le _⟩ dX12_derive_15 (fun H locs w => ?_)
  refine x_Vi F w (As := [.int 0]) (rest := []) (a := 146) (by decide) (sh_12 rfl _ _) rfl (c_X12_takes_213) gv_X12_252 hv_X12_takes ⟨Nat.le_of_ble_eq_true rfl, Nat.le_of_ble_eq_true rfl⟩ hl.1 rfl (Nat.le_of_ble_eq_true rfl) ⟨Nat.zero_le _, Nat.zero_le _⟩ dX12_derive_18 (fun H locs w => ?_)
  refine lv_goto (tgt := 25) hx hb dX12_derive_21 (by decide) ?_
  exact e_i F w hr hlocks ⟨rfl, rfl⟩ dX12_derive_25
set_option maxRecDepth 8000 in
theorem la_13_38 {p : Program} {l : Launch} {e : Env} {s : State} {m : MethodId} {below : List Frame} {meth : Method} {c : Code} {D : va_G} {B b : Nat} {cy : Nat → ClassId} {H : Heap} {locs : List Loc} {ls : Array Slot} {xs : Nat → Int32} {Q : State → Prop} (F : CallFix p m c code 4 s #[Value.ref b] TB RL) (hX : va_X b 6 xs s s.heap) (hbl : b < s.heap.size) (hbA : ¬ B ≤ b) (w : Wd D B cy s s.heap M0 H locs) (hl : lv_has ls 4 [(3, .int 0), (2, .ref (B + 146)), (1, .ref (B + 0)), (0, .ref b)]) (x1 : xs 1 = 0) (kk : ∀ (M1 : Mem) (H1 : Heap) (locs1 : List Loc), Wd D B cy s s.heap M1 H1 locs1 → W p l e room_1 s m #[Value.ref b] below meth c H1 locs1 159 13107 Q (F0 m 1065 ls [])) : W p l e room_1 s m #[Value.ref b] below meth c H locs 159 13107 Q (F0 m 607 ls []) := by
  have hx := F.1
  have hb := F.2.1
  refine lv_aload_n hx hb dL_law_607 rfl (lv_at hl 2 rfl) ?_
  refine lv_aload_n hx hb dL_law_608 rfl (lv_at hl 3 rfl) ?_
  refine lv_iload_n hx hb dL_law_609 rfl (lv_at hl 0 rfl) ?_
  refine lv_iconst (v := 1) hx hb dL_law_610 (by decide) ?_
  refine lv_iadd hx hb dL_law_611 ?_
  refine r_val (v := 1) (by decide) ?_
  refine va_sld hx hb hX hbl hbA w.2.2.1 (vpi (by decide) (by decide)) dL_law_612 ?_
  refine r_val (v := 0) ((congrArg xs (show (1 : Int32).toNatClampNeg = 1 by decide)).trans x1) ?_
  refine x_Vi F w (As := [.int 0]) (rest := []) (a := 0) (by decide) (sh_11 rfl _ _) rfl (c_X11_derive_210 (rfl) (rfl)) gv_L_74 hv_X11_derive ⟨Nat.le_of_ble_eq_true rfl, Nat.le_of_ble_eq_true rfl⟩ hl.1 rfl (Nat.le_of_ble_eq_true rfl) ⟨Nat.le_of_ble_eq_true rfl, Nat.le_of_ble_eq_true rfl⟩ dL_law_613 (fun H locs w => ?_)
  refine lv_aload_n hx hb dL_law_616 rfl (lv_at hl 1 rfl) ?_
  refine lv_aload_n hx hb dL_law_617 rfl (lv_at hl 3 rfl) ?_
  refine lv_iload_n hx hb dL_law_618 rfl (lv_at hl 0 rfl) ?_
  refine lv_iconst (v := 1) hx hb dL_law_619 (by decide) ?_
  refine lv_iadd hx hb dL_law_620 ?_
  refine r_val (v := 1) (by decide) ?_
  refine va_sld hx hb hX hbl hbA w.2.2.1 (vpi (by decide) (by decide)) dL_law_621 ?_
  refine r_val (v := 0) ((congrArg xs (show (1 : Int32).toNatClampNeg = 1 by decide)).trans x1) ?_
  refine x_Vi F w (As := [.int 0]) (rest := [.int 0]) (a := 146) (by decide) (sh_12 rfl _ _) rfl (c_X12_derive_214 (rfl) (rfl) (rfl) (rfl) (rfl) (rfl) (rfl) (rfl) (rfl) (rfl) (rfl) (rfl) (rfl) (rfl) (rfl) (rfl) (rfl) (rfl) (rfl) (rfl) (rfl) (rfl) (rfl) (rfl) (rfl) (rfl) (rfl) (rfl) (rfl) (rfl) (rfl) (rfl) (rfl) (rfl) (rfl) (rfl) (rfl) (rfl) (rfl) (rfl) (rfl) (rfl) (rfl) (rfl) (rfl) (rfl) (rfl) (rfl) (rfl) (rfl) (rfl) (rfl) (rfl) (rfl) (rfl) (rfl) (rfl)) gv_L_77 hv_X12_derive ⟨Nat.le_of_ble_eq_true rfl, Nat.le_of_ble_eq_true rfl⟩ hl.1 rfl (Nat.le_of_ble_eq_true rfl) ⟨Nat.le_of_ble_eq_true rfl, Nat.le_of_ble_eq_true rfl⟩ dL_law_622 (fun H locs w => ?_)
  refine lv_icmp_eq (tgt := 1065) hx hb dL_law_625 (by decide) (fun _ => ?_) (fun c1 => absurd c1 (by decide))
  exact kk _ _ _ w
set_option maxRecDepth 4000 in
theorem c_X0_covers_215 {l : Launch} {D : va_G} {B : Nat} {cy : Nat → ClassId} {M : Mem} {p1 : Int32} (h0 : ¬ p1 < 0) (h1 : M.1 22 2 = 0) (h2 : 0 < p1) : Ci l D B cy yX0_covers cX0_covers 2 (some .boolean) 0 0 [.ref (B + 22), .int p1] M (fun r M1 => r = 0 ∧ M1 = M) := by
  refine s_any (by decide) (Nat.le_of_ble_eq_true rfl) ?_
  intro p e s m below meth c ls F hr hlocks w hl
  have F : CallFix p m c cX0_covers 2 s _ TB RX0 := F
  have hx := F.1
  have hb := F.2.1
  have hl : lv_has ls 2 [(0, .ref (B + 22)), (1, .int p1)] := hl
  refine lv_iload_n hx hb dX0_covers_0 rfl (lv_at hl 1 rfl) ?_
  refine lv_if_lt (tgt := 16) hx hb dX0_covers_1 (by decide) (fun c1 => absurd c1 h0) (fun _ => ?_)
  refine lv_iload_n hx hb dX0_covers_4 rfl (lv_at hl 1 rfl) ?_
  refine lv_aload_n hx hb dX0_covers_5 rfl (lv_at hl 0 rfl) ?_
  refine f_0_2 F w (a := 22) rfl tb_54 dX0_covers_6 ?_
  refine r_val (v := 0) (h1) ?_
  refine lv_icmp_gt (tgt := 16) hx hb dX0_covers_9 (by decide) (fun _ => ?_) (fun c1 => absurd h2 c1)
  refine lv_iconst (v := 0) hx hb dX0_covers_16 (by decide) ?_
  exact e_z F w hr hlocks (by decide) ⟨rfl, rfl⟩ dX0_covers_17
set_option maxRecDepth 4000 in
theorem c_X11_derive_216 {l : Launch} {D : va_G} {B : Nat} {cy : Nat → ClassId} {M : Mem} {p1 : Int32} (h0 : ¬ p1 < 0) (h1 : M.1 22 2 = 0) (h2 : 0 < p1) : Ci l D B cy yX11_derive cX11_derive 4 (some .int) 1 21 [.ref (B + 0), .int p1] M (fun r M1 => r = (-1) ∧ M1 = M) := by
  refine s_any (by decide) (Nat.le_of_ble_eq_true rfl) ?_
  intro p e s m below meth c ls F hr hlocks w hl
  have F : CallFix p m c cX11_derive 4 s _ TB RX11 := F
  have hx := F.1
  have hb := F.2.1
  have hl : lv_has ls 4 [(0, .ref (B + 0)), (1, .int p1)] := hl
  refine lv_aload_n hx hb dX11_derive_0 rfl (lv_at hl 0 rfl) ?_
  refine f_11_3 F w (a := 0) rfl tb_73 dX11_derive_1 ?_
  refine lv_iload_n hx hb dX11_derive_4 rfl (lv_at hl 1 rfl) ?_
  refine x_Vi F w (As := [.int p1]) (rest := []) (a := 22) (by decide) (sh_0 rfl _ _) rfl (c_X0_covers_215 h0 (h1) h2) gv_X11_193 hv_X0_covers ⟨Nat.le_of_ble_eq_true rfl, Nat.le_of_ble_eq_true rfl⟩ hl.1 rfl (Nat.le_of_ble_eq_true rfl) ⟨Nat.zero_le _, Nat.zero_le _⟩ dX11_derive_5 (fun H locs w => ?_)
  refine lv_if_ne (tgt := 13) hx hb dX11_derive_8 (by decide) (fun c1 => absurd c1 (by decide)) (fun _ => ?_)
  refine lv_iconst (v := (-1)) hx hb dX11_derive_11 (by decide) ?_
  exact e_i F w hr hlocks ⟨rfl, rfl⟩ dX11_derive_12
set_option maxRecDepth 4000 in
theorem c_X12_derive_217 {l : Launch} {D : va_G} {B : Nat} {cy : Nat → ClassId} {M : Mem} {p1 : Int32} (h0 : M.1 146 5 = 0) (h1 : ¬ p1 < 0) (h2 : 0 < p1) : Ci l D B cy yX12_derive cX12_derive 2 (some .int) 1 22 [.ref (B + 146), .int p1] M (fun r M1 => r = (-1) ∧ M1 = M) := by
  refine s_any (by decide) (Nat.le_of_ble_eq_true rfl) ?_
  intro p e s m below meth c ls F hr hlocks w hl
  have F : CallFix p m c cX12_derive 2 s _ TB RX12 := F
  have hx := F.1
  have hb := F.2.1
  have hl : lv_has ls 2 [(0, .ref (B + 146)), (1, .int p1)] := hl
  refine lv_iload_n hx hb dX12_derive_0 rfl (lv_at hl 1 rfl) ?_
  refine lv_iconst (v := 0) hx hb dX12_derive_1 (by decide) ?_
  refine lv_aload_n hx hb dX12_derive_2 rfl (lv_at hl 0 rfl) ?_
  refine f_12_5 F w (a := 146) rfl tb_227 dX12_derive_3 ?_
  refine r_val (v := 0) (h0) ?_
  refine x_Si F w (As := [.int p1, .int 0, .int 0]) (rest := []) (c_X12_in_72 h1 h2) gs_X12_55 hs_X12_in ⟨Nat.le_of_ble_eq_true rfl, Nat.le_of_ble_eq_true rfl⟩ hl.1 rfl (Nat.le_of_ble_eq_true rfl) ⟨Nat.zero_le _, Nat.zero_le _⟩ dX12_derive_6 (fun H locs w => ?_)
  refine lv_if_eq (tgt := 24) hx hb dX12_derive_9 (by decide) (fun _ => ?_) (fun c1 => absurd c1 (by decide))
  refine lv_iconst (v := (-1)) hx hb dX12_derive_24 (by decide) ?_
  exact e_i F w hr hlocks ⟨rfl, rfl⟩ dX12_derive_25
