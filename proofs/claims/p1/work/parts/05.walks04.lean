theorem dX12_writesWord_0 : decode cX12_writesWord 0 = .ok (.aload_n 0, 1) := by decide +kernel
theorem dX12_writesWord_1 : decode cX12_writesWord 1 = .ok (.iconst 0, 1) := by decide +kernel
theorem dX12_writesWord_2 : decode cX12_writesWord 2 = .ok (.putfield 291, 3) := by decide +kernel
theorem tb_476 : Cond.fieldLink "ToneLinesModel" 291 "ToneLinesModel" "textMany" "I" ∈ TB := tbm (tc5 (List.mem_of_getElem? (i := 78) rfl)) rfl
theorem dX12_writesWord_5 : decode cX12_writesWord 5 = .ok (.iconst 0, 1) := by decide +kernel
theorem dX12_writesWord_6 : decode cX12_writesWord 6 = .ok (.istore_n 1, 1) := by decide +kernel
theorem dX12_writesWord_7 : decode cX12_writesWord 7 = .ok (.iload_n 1, 1) := by decide +kernel
theorem dX12_writesWord_8 : decode cX12_writesWord 8 = .ok (.aload_n 0, 1) := by decide +kernel
theorem dX12_writesWord_9 : decode cX12_writesWord 9 = .ok (.getfield 17, 3) := by decide +kernel
theorem dX12_writesWord_12 : decode cX12_writesWord 12 = .ok (.iconst 0, 1) := by decide +kernel
theorem dX12_writesWord_13 : decode cX12_writesWord 13 = .ok (.iaload, 1) := by decide +kernel
theorem dX12_writesWord_14 : decode cX12_writesWord 14 = .ok (.if_icmp .ge 48, 3) := by decide +kernel
theorem dX12_writesWord_62 : decode cX12_writesWord 62 = .ok (.aload_n 0, 1) := by decide +kernel
theorem dX12_writesWord_63 : decode cX12_writesWord 63 = .ok (.bipush 47, 2) := by decide +kernel
theorem dX12_writesWord_65 : decode cX12_writesWord 65 = .ok (.invokevirtual 294, 3) := by decide +kernel
theorem dX12_writes_0 : decode cX12_writes 0 = .ok (.aload_n 0, 1) := by decide +kernel
theorem dX12_writes_1 : decode cX12_writes 1 = .ok (.getfield 42, 3) := by decide +kernel
theorem dX12_writes_4 : decode cX12_writes 4 = .ok (.aload_n 0, 1) := by decide +kernel
theorem dX12_writes_5 : decode cX12_writes 5 = .ok (.getfield 291, 3) := by decide +kernel
theorem dX12_writes_8 : decode cX12_writes 8 = .ok (.iload_n 1, 1) := by decide +kernel
theorem dX12_writes_9 : decode cX12_writes 9 = .ok (.iastore, 1) := by decide +kernel
theorem dX12_writes_10 : decode cX12_writes 10 = .ok (.aload_n 0, 1) := by decide +kernel
theorem dX12_writes_11 : decode cX12_writes 11 = .ok (.dup, 1) := by decide +kernel
theorem dX12_writes_12 : decode cX12_writes 12 = .ok (.getfield 291, 3) := by decide +kernel
theorem dX12_writes_15 : decode cX12_writes 15 = .ok (.iconst 1, 1) := by decide +kernel
theorem dX12_writes_16 : decode cX12_writes 16 = .ok (.iadd, 1) := by decide +kernel
theorem dX12_writes_17 : decode cX12_writes 17 = .ok (.putfield 291, 3) := by decide +kernel
theorem dX12_writes_20 : decode cX12_writes 20 = .ok (.return_, 1) := by decide +kernel
set_option maxRecDepth 4000 in
theorem c_X12_writes_313 {l : Launch} {D : va_G} {B : Nat} {cy : Nat → ClassId} {M : Mem} (h0 : M.1 146 22 = 0) (h1 : M.1 156 0 = 0) : Cv l D B cy yX12_writes cX12_writes 2 0 0 [.ref (B + 146), .int 47] M (fun M1 => M1 = (st (st M 156 0 47) 146 22 1)) := by
  refine s_any (by decide) (Nat.le_of_ble_eq_true rfl) ?_
  intro p e s m below meth c ls F hr hlocks w hl
  have F : CallFix p m c cX12_writes 2 s _ TB RX12 := F
  have hx := F.1
  have hb := F.2.1
  have hl : lv_has ls 2 [(0, .ref (B + 146)), (1, .int 47)] := hl
  refine lv_aload_n hx hb dX12_writes_0 rfl (lv_at hl 0 rfl) ?_
  refine f_12_21 F w (a := 146) rfl tb_135 dX12_writes_1 ?_
  refine lv_aload_n hx hb dX12_writes_4 rfl (lv_at hl 0 rfl) ?_
  refine f_12_22 F w (a := 146) rfl tb_476 dX12_writes_5 ?_
  refine r_val (v := 0) (h0) ?_
  refine lv_iload_n hx hb dX12_writes_8 rfl (lv_at hl 1 rfl) ?_
  refine g_iast F w (a := 156) rfl (j := 0) ⟨by decide, by decide⟩ (by decide) dX12_writes_9 (fun H locs w => ?_)
  refine lv_aload_n hx hb dX12_writes_10 rfl (lv_at hl 0 rfl) ?_
  refine lv_dup hx hb dX12_writes_11 rfl ?_
  refine f_12_22 F w (a := 146) rfl tb_476 dX12_writes_12 ?_
  refine r_val (v := 0) ((st_ne (by decide)).trans h0) ?_
  refine lv_iconst (v := 1) hx hb dX12_writes_15 (by decide) ?_
  refine lv_iadd hx hb dX12_writes_16 ?_
  refine r_val (v := 1) (by decide) ?_
  refine u_12_22 F w (a := 146) rfl tb_476 dX12_writes_17 (fun H locs w => ?_)
  exact e_v F w hr hlocks rfl dX12_writes_20
theorem tk_X12_writes : Cond.code yX12_writes cX12_writes 2 none ∈ TB := tbm (tc6 (List.mem_of_getElem? (i := 220) rfl)) rfl
theorem gc_X12_writes : GoodIn TB (cw yX12_writes cX12_writes 2 none) := goodIn_c2 tk_X12_writes
theorem tb_477 : Cond.methodLink "ToneLinesModel" 294 yX12_writes ∈ TB := tbm (tc6 (List.mem_of_getElem? (i := 217) rfl)) rfl
theorem tb_478 : Cond.instanceMethod yX12_writes ∈ TB := tbm (tc6 (List.mem_of_getElem? (i := 219) rfl)) rfl
theorem tb_479 : Cond.selects "ToneLinesModel" yX12_writes yX12_writes ∈ TB := tbp (List.mem_of_getElem? (i := 83) rfl) rfl
theorem gv_X12_294 : GoodIn TB (wsV RX12 294 RX12 yX12_writes (cw yX12_writes cX12_writes 2 none)) := goodIn_4 tb_477 tb_478 tb_479 tb_150 gc_X12_writes
theorem hv_X12_writes : yX12_writes.cls = RX12 ∧ yX12_writes.cls ≠ "java/lang/invoke/MethodHandle" ∧ yX12_writes.cls ≠ "java/lang/invoke/VarHandle" ∧ (parseMethodDescriptor yX12_writes.desc).map (fun d => d.parameters.length) = some 1 := by decide +kernel
theorem dX12_writesWord_68 : decode cX12_writesWord 68 = .ok (.iconst 0, 1) := by decide +kernel
theorem dX12_writesWord_69 : decode cX12_writesWord 69 = .ok (.istore_n 1, 1) := by decide +kernel
theorem dX12_writesWord_70 : decode cX12_writesWord 70 = .ok (.iload_n 1, 1) := by decide +kernel
theorem dX12_writesWord_71 : decode cX12_writesWord 71 = .ok (.aload_n 0, 1) := by decide +kernel
theorem dX12_writesWord_72 : decode cX12_writesWord 72 = .ok (.getfield 17, 3) := by decide +kernel
theorem dX12_writesWord_75 : decode cX12_writesWord 75 = .ok (.bipush 25, 2) := by decide +kernel
theorem dX12_writesWord_77 : decode cX12_writesWord 77 = .ok (.iaload, 1) := by decide +kernel
theorem dX12_writesWord_78 : decode cX12_writesWord 78 = .ok (.if_icmp .ge 54, 3) := by decide +kernel
theorem dX12_writesWord_132 : decode cX12_writesWord 132 = .ok (.aload_n 0, 1) := by decide +kernel
theorem dX12_writesWord_133 : decode cX12_writesWord 133 = .ok (.bipush 47, 2) := by decide +kernel
theorem dX12_writesWord_135 : decode cX12_writesWord 135 = .ok (.invokevirtual 294, 3) := by decide +kernel
set_option maxRecDepth 4000 in
theorem c_X12_writes_314 {l : Launch} {D : va_G} {B : Nat} {cy : Nat → ClassId} {M : Mem} (h0 : M.1 146 22 = 1) (h1 : M.1 156 1 = 0) : Cv l D B cy yX12_writes cX12_writes 2 0 0 [.ref (B + 146), .int 47] M (fun M1 => M1 = (st (st M 156 1 47) 146 22 2)) := by
  refine s_any (by decide) (Nat.le_of_ble_eq_true rfl) ?_
  intro p e s m below meth c ls F hr hlocks w hl
  have F : CallFix p m c cX12_writes 2 s _ TB RX12 := F
  have hx := F.1
  have hb := F.2.1
  have hl : lv_has ls 2 [(0, .ref (B + 146)), (1, .int 47)] := hl
  refine lv_aload_n hx hb dX12_writes_0 rfl (lv_at hl 0 rfl) ?_
  refine f_12_21 F w (a := 146) rfl tb_135 dX12_writes_1 ?_
  refine lv_aload_n hx hb dX12_writes_4 rfl (lv_at hl 0 rfl) ?_
  refine f_12_22 F w (a := 146) rfl tb_476 dX12_writes_5 ?_
  refine r_val (v := 1) (h0) ?_
  refine lv_iload_n hx hb dX12_writes_8 rfl (lv_at hl 1 rfl) ?_
  refine g_iast F w (a := 156) rfl (j := 1) ⟨by decide, by decide⟩ (by decide) dX12_writes_9 (fun H locs w => ?_)
  refine lv_aload_n hx hb dX12_writes_10 rfl (lv_at hl 0 rfl) ?_
  refine lv_dup hx hb dX12_writes_11 rfl ?_
  refine f_12_22 F w (a := 146) rfl tb_476 dX12_writes_12 ?_
  refine r_val (v := 1) ((st_ne (by decide)).trans h0) ?_
  refine lv_iconst (v := 1) hx hb dX12_writes_15 (by decide) ?_
  refine lv_iadd hx hb dX12_writes_16 ?_
  refine r_val (v := 2) (by decide) ?_
  refine u_12_22 F w (a := 146) rfl tb_476 dX12_writes_17 (fun H locs w => ?_)
  exact e_v F w hr hlocks rfl dX12_writes_20
theorem dX12_writesWord_138 : decode cX12_writesWord 138 = .ok (.iconst 1, 1) := by decide +kernel
theorem dX12_writesWord_139 : decode cX12_writesWord 139 = .ok (.istore_n 1, 1) := by decide +kernel
theorem dX12_writesWord_140 : decode cX12_writesWord 140 = .ok (.iconst 0, 1) := by decide +kernel
theorem dX12_writesWord_141 : decode cX12_writesWord 141 = .ok (.istore_n 2, 1) := by decide +kernel
theorem dX12_writesWord_142 : decode cX12_writesWord 142 = .ok (.iload_n 2, 1) := by decide +kernel
theorem dX12_writesWord_143 : decode cX12_writesWord 143 = .ok (.aload_n 0, 1) := by decide +kernel
theorem dX12_writesWord_144 : decode cX12_writesWord 144 = .ok (.getfield 17, 3) := by decide +kernel
theorem dX12_writesWord_147 : decode cX12_writesWord 147 = .ok (.iconst 0, 1) := by decide +kernel
theorem dX12_writesWord_148 : decode cX12_writesWord 148 = .ok (.iaload, 1) := by decide +kernel
theorem dX12_writesWord_149 : decode cX12_writesWord 149 = .ok (.if_icmp .ge 75, 3) := by decide +kernel
theorem dX12_writesWord_224 : decode cX12_writesWord 224 = .ok (.return_, 1) := by decide +kernel
set_option maxRecDepth 4000 in
theorem c_X12_writesWord_315 {l : Launch} {D : va_G} {B : Nat} {cy : Nat → ClassId} {M : Mem} (h0 : M.1 146 22 = 0) (h1 : M.1 148 0 = 0) (h2 : M.1 156 0 = 0) (h3 : M.1 148 25 = 0) (h4 : M.1 156 1 = 0) : Cv l D B cy yX12_writesWord cX12_writesWord 4 1 21 [.ref (B + 146)] M (fun M1 => M1 = (st (st (st (st M 156 0 47) 146 22 1) 156 1 47) 146 22 2)) := by
  refine s_any (by decide) (Nat.le_of_ble_eq_true rfl) ?_
  intro p e s m below meth c ls F hr hlocks w hl
  have F : CallFix p m c cX12_writesWord 4 s _ TB RX12 := F
  have hx := F.1
  have hb := F.2.1
  have hl : lv_has ls 4 [(0, .ref (B + 146))] := hl
  refine lv_aload_n hx hb dX12_writesWord_0 rfl (lv_at hl 0 rfl) ?_
  refine lv_iconst (v := 0) hx hb dX12_writesWord_1 (by decide) ?_
  refine u_12_22 F w (a := 146) rfl tb_476 dX12_writesWord_2 (fun H locs w => ?_)
  rw [st_same (h0)] at w
  refine lv_iconst (v := 0) hx hb dX12_writesWord_5 (by decide) ?_
  refine lv_istore_n (lv' := [(1, .int 0), (0, .ref (B + 146))]) hx hb dX12_writesWord_6 rfl hl (by decide) rfl (fun ls hl => ?_)
  refine lv_iload_n hx hb dX12_writesWord_7 rfl (lv_at hl 0 rfl) ?_
  refine lv_aload_n hx hb dX12_writesWord_8 rfl (lv_at hl 1 rfl) ?_
  refine f_12_2 F w (a := 146) rfl tb_127 dX12_writesWord_9 ?_
  refine lv_iconst (v := 0) hx hb dX12_writesWord_12 (by decide) ?_
  refine g_iald F w (a := 148) rfl (j := 0) ⟨by decide, by decide⟩ (by decide) dX12_writesWord_13 ?_
  refine r_val (v := 0) (h1) ?_
  refine lv_icmp_ge (tgt := 62) hx hb dX12_writesWord_14 (by decide) (fun _ => ?_) (fun c1 => absurd c1 (by decide))
  refine lv_aload_n hx hb dX12_writesWord_62 rfl (lv_at hl 1 rfl) ?_
  refine lv_bipush (v := 47) hx hb dX12_writesWord_63 (by decide) ?_
  refine x_Vv F w (As := [.int 47]) (rest := []) (a := 146) (by decide) (sh_12 rfl _ _) rfl (c_X12_writes_313 (h0) (h2)) gv_X12_294 hv_X12_writes ⟨Nat.le_of_ble_eq_true rfl, Nat.le_of_ble_eq_true rfl⟩ hl.1 rfl (Nat.le_of_ble_eq_true rfl) ⟨Nat.zero_le _, Nat.zero_le _⟩ dX12_writesWord_65 (fun H locs w => ?_)
  refine lv_iconst (v := 0) hx hb dX12_writesWord_68 (by decide) ?_
  refine lv_istore_n (lv' := [(1, .int 0), (0, .ref (B + 146))]) hx hb dX12_writesWord_69 rfl hl (by decide) rfl (fun ls hl => ?_)
  refine lv_iload_n hx hb dX12_writesWord_70 rfl (lv_at hl 0 rfl) ?_
  refine lv_aload_n hx hb dX12_writesWord_71 rfl (lv_at hl 1 rfl) ?_
  refine f_12_2 F w (a := 146) rfl tb_127 dX12_writesWord_72 ?_
  refine lv_bipush (v := 25) hx hb dX12_writesWord_75 (by decide) ?_
  refine g_iald F w (a := 148) rfl (j := 25) ⟨by decide, by decide⟩ (by decide) dX12_writesWord_77 ?_
  refine r_val (v := 0) ((st_ne (by decide)).trans ((st_ne (by decide)).trans h3)) ?_
  refine lv_icmp_ge (tgt := 132) hx hb dX12_writesWord_78 (by decide) (fun _ => ?_) (fun c1 => absurd c1 (by decide))
  refine lv_aload_n hx hb dX12_writesWord_132 rfl (lv_at hl 1 rfl) ?_
  refine lv_bipush (v := 47) hx hb dX12_writesWord_133 (by decide) ?_
  refine x_Vv F w (As := [.int 47]) (rest := []) (a := 146) (by decide) (sh_12 rfl _ _) rfl (c_X12_writes_314 (st_at) ((st_ne (by decide)).trans ((st_ne (by decide)).trans h4))) gv_X12_294 hv_X12_writes ⟨Nat.le_of_ble_eq_true rfl, Nat.le_of_ble_eq_true rfl⟩ hl.1 rfl (Nat.le_of_ble_eq_true rfl) ⟨Nat.zero_le _, Nat.zero_le _⟩ dX12_writesWord_135 (fun H locs w => ?_)
  refine lv_iconst (v := 1) hx hb dX12_writesWord_138 (by decide) ?_
  refine lv_istore_n (lv' := [(1, .int 1), (0, .ref (B + 146))]) hx hb dX12_writesWord_139 rfl hl (by decide) rfl (fun ls hl => ?_)
  refine lv_iconst (v := 0) hx hb dX12_writesWord_140 (by decide) ?_
  refine lv_istore_n (lv' := [(2, .int 0), (1, .int 1), (0, .ref (B + 146))]) hx hb dX12_writesWord_141 rfl hl (by decide) rfl (fun ls hl => ?_)
  refine lv_iload_n hx hb dX12_writesWord_142 rfl (lv_at hl 0 rfl) ?_
  refine lv_aload_n hx hb dX12_writesWord_143 rfl (lv_at hl 2 rfl) ?_
  refine f_12_2 F w (a := 146) rfl tb_127 dX12_writesWord_144 ?_
  refine lv_iconst (v := 0) hx hb dX12_writesWord_147 (by decide) ?_
  refine g_iald F w (a := 148) rfl (j := 0) ⟨by decide, by decide⟩ (by decide) dX12_writesWord_148 ?_
  refine r_val (v := 0) ((st_ne (by decide)).trans ((st_ne (by decide)).trans ((st_ne (by decide)).trans ((st_ne (by decide)).trans h1)))) ?_
  refine lv_icmp_ge (tgt := 224) hx hb dX12_writesWord_149 (by decide) (fun _ => ?_) (fun c1 => absurd c1 (by decide))
  exact e_v F w hr hlocks rfl dX12_writesWord_224
theorem tk_X12_writesWord : Cond.code yX12_writesWord cX12_writesWord 4 none ∈ TB := tbm (tc6 (List.mem_of_getElem? (i := 216) rfl)) rfl
theorem gc_X12_writesWord : GoodIn TB (cw yX12_writesWord cX12_writesWord 4 none) := goodIn_c2 tk_X12_writesWord
theorem tb_480 : Cond.methodLink "ToneLinesModel" 300 yX12_writesWord ∈ TB := tbm (tc6 (List.mem_of_getElem? (i := 213) rfl)) rfl
theorem tb_481 : Cond.instanceMethod yX12_writesWord ∈ TB := tbm (tc6 (List.mem_of_getElem? (i := 215) rfl)) rfl
theorem tb_482 : Cond.selects "ToneLinesModel" yX12_writesWord yX12_writesWord ∈ TB := tbp (List.mem_of_getElem? (i := 82) rfl) rfl
theorem gv_X12_300 : GoodIn TB (wsV RX12 300 RX12 yX12_writesWord (cw yX12_writesWord cX12_writesWord 4 none)) := goodIn_4 tb_480 tb_481 tb_482 tb_150 gc_X12_writesWord
theorem hv_X12_writesWord : yX12_writesWord.cls = RX12 ∧ yX12_writesWord.cls ≠ "java/lang/invoke/MethodHandle" ∧ yX12_writesWord.cls ≠ "java/lang/invoke/VarHandle" ∧ (parseMethodDescriptor yX12_writesWord.desc).map (fun d => d.parameters.length) = some 0 := by decide +kernel
theorem dX12_spell_19 : decode cX12_spell 19 = .ok (.iload_n 2, 1) := by decide +kernel
theorem dX12_spell_20 : decode cX12_spell 20 = .ok (.iconst (-1), 1) := by decide +kernel
theorem dX12_spell_21 : decode cX12_spell 21 = .ok (.if_icmp .ne 10, 3) := by decide +kernel
theorem dX12_spell_24 : decode cX12_spell 24 = .ok (.aload_n 0, 1) := by decide +kernel
theorem dX12_spell_25 : decode cX12_spell 25 = .ok (.getfield 291, 3) := by decide +kernel
theorem dX12_spell_28 : decode cX12_spell 28 = .ok (.goto 21, 3) := by decide +kernel
theorem dX12_spell_49 : decode cX12_spell 49 = .ok (.ireturn, 1) := by decide +kernel
set_option maxRecDepth 4000 in
theorem c_X12_spell_316 {l : Launch} {D : va_G} {B : Nat} {cy : Nat → ClassId} {M : Mem} (h0 : M.1 146 5 = 0) (h1 : M.1 147 0 = 0) (h2 : M.1 148 0 = 0) (h3 : M.1 147 1 = 0) (h4 : M.1 148 1 = 0) (h5 : M.1 147 2 = 0) (h6 : M.1 148 2 = 0) (h7 : M.1 147 3 = 0) (h8 : M.1 148 3 = 0) (h9 : M.1 147 4 = 0) (h10 : M.1 148 4 = 0) (h11 : M.1 147 5 = 0) (h12 : M.1 148 5 = 0) (h13 : M.1 147 6 = 0) (h14 : M.1 148 6 = 0) (h15 : M.1 147 7 = 0) (h16 : M.1 148 7 = 0) (h17 : M.1 147 8 = 0) (h18 : M.1 148 8 = 0) (h19 : M.1 147 9 = 0) (h20 : M.1 148 9 = 0) (h21 : M.1 147 10 = 0) (h22 : M.1 148 10 = 0) (h23 : M.1 147 11 = 0) (h24 : M.1 148 11 = 0) (h25 : M.1 147 12 = 0) (h26 : M.1 148 12 = 0) (h27 : M.1 147 13 = 0) (h28 : M.1 148 13 = 0) (h29 : M.1 147 14 = 0) (h30 : M.1 148 14 = 0) (h31 : M.1 147 15 = 0) (h32 : M.1 148 15 = 0) (h33 : M.1 147 16 = 0) (h34 : M.1 148 16 = 0) (h35 : M.1 147 17 = 0) (h36 : M.1 148 17 = 0) (h37 : M.1 147 18 = 0) (h38 : M.1 148 18 = 0) (h39 : M.1 147 19 = 0) (h40 : M.1 148 19 = 0) (h41 : M.1 147 20 = 0) (h42 : M.1 148 20 = 0) (h43 : M.1 147 21 = 0) (h44 : M.1 148 21 = 0) (h45 : M.1 147 22 = 0) (h46 : M.1 148 22 = 0) (h47 : M.1 147 23 = 0) (h48 : M.1 148 23 = 0) (h49 : M.1 147 24 = 0) (h50 : M.1 148 24 = 0) (h51 : M.1 147 25 = 0) (h52 : M.1 148 25 = 0) (h53 : M.1 147 26 = 0) (h54 : M.1 148 26 = 0) (h55 : M.1 147 27 = 0) (h56 : M.1 148 27 = 0) (h57 : M.1 146 22 = 0) (h58 : M.1 156 0 = 0) (h59 : M.1 156 1 = 0) : Ci l D B cy yX12_spell cX12_spell 3 (some .int) 3 66 [.ref (B + 146), .int 0, .int (-1)] M (fun r M1 => r = 2 ∧ M1 = (st (st (st (st M 156 0 47) 146 22 1) 156 1 47) 146 22 2)) := by
  refine s_any (by decide) (Nat.le_of_ble_eq_true rfl) ?_
  intro p e s m below meth c ls F hr hlocks w hl
  have F : CallFix p m c cX12_spell 3 s _ TB RX12 := F
  have hx := F.1
  have hb := F.2.1
  have hl : lv_has ls 3 [(0, .ref (B + 146)), (1, .int 0), (2, .int (-1))] := hl
  refine lv_aload_n hx hb dX12_spell_0 rfl (lv_at hl 0 rfl) ?_
  refine lv_iload_n hx hb dX12_spell_1 rfl (lv_at hl 1 rfl) ?_
  refine x_Vi F w (As := [.int 0]) (rest := []) (a := 146) (by decide) (sh_12 rfl _ _) rfl (c_X12_lays_224 (h0) (h1) (h2) (h3) (h4) (h5) (h6) (h7) (h8) (h9) (h10) (h11) (h12) (h13) (h14) (h15) (h16) (h17) (h18) (h19) (h20) (h21) (h22) (h23) (h24) (h25) (h26) (h27) (h28) (h29) (h30) (h31) (h32) (h33) (h34) (h35) (h36) (h37) (h38) (h39) (h40) (h41) (h42) (h43) (h44) (h45) (h46) (h47) (h48) (h49) (h50) (h51) (h52) (h53) (h54) (h55) (h56)) gv_X12_261 hv_X12_lays ⟨Nat.le_of_ble_eq_true rfl, Nat.le_of_ble_eq_true rfl⟩ hl.1 rfl (Nat.le_of_ble_eq_true rfl) ⟨Nat.zero_le _, Nat.zero_le _⟩ dX12_spell_2 (fun H locs w => ?_)
  refine lv_if_eq (tgt := 13) hx hb dX12_spell_5 (by decide) (fun c1 => absurd c1 (by decide)) (fun _ => ?_)
  refine lv_iload_n hx hb dX12_spell_8 rfl (lv_at hl 2 rfl) ?_
  refine lv_iconst (v := (-1)) hx hb dX12_spell_9 (by decide) ?_
  refine lv_icmp_ge (tgt := 15) hx hb dX12_spell_10 (by decide) (fun _ => ?_) (fun c1 => absurd c1 (by decide))
  refine lv_aload_n hx hb dX12_spell_15 rfl (lv_at hl 0 rfl) ?_
  refine x_Vv F w (As := []) (rest := []) (a := 146) (by decide) (sh_12 rfl _ _) rfl (c_X12_writesWord_315 (h57) (h2) (h58) (h52) (h59)) gv_X12_300 hv_X12_writesWord ⟨Nat.le_of_ble_eq_true rfl, Nat.le_of_ble_eq_true rfl⟩ hl.1 rfl (Nat.le_of_ble_eq_true rfl) ⟨Nat.zero_le _, Nat.zero_le _⟩ dX12_spell_16 (fun H locs w => ?_)
  refine lv_iload_n hx hb dX12_spell_19 rfl (lv_at hl 2 rfl) ?_
  refine lv_iconst (v := (-1)) hx hb dX12_spell_20 (by decide) ?_
  refine lv_icmp_ne (tgt := 31) hx hb dX12_spell_21 (by decide) (fun c1 => absurd c1 (by decide)) (fun _ => ?_)
  refine lv_aload_n hx hb dX12_spell_24 rfl (lv_at hl 0 rfl) ?_
  refine f_12_22 F w (a := 146) rfl tb_476 dX12_spell_25 ?_
  refine r_val (v := 2) (st_at) ?_
  refine lv_goto (tgt := 49) hx hb dX12_spell_28 (by decide) ?_
  exact e_i F w hr hlocks ⟨rfl, rfl⟩ dX12_spell_49
set_option maxRecDepth 8000 in
theorem la_20_74 {p : Program} {l : Launch} {e : Env} {s : State} {m : MethodId} {below : List Frame} {meth : Method} {c : Code} {D : va_G} {B b : Nat} {cy : Nat → ClassId} {H : Heap} {locs : List Loc} {ls : Array Slot} {xs : Nat → Int32} {Q : State → Prop} (F : CallFix p m c code 4 s #[Value.ref b] TB RL) (hX : va_X b 6 xs s s.heap) (hbl : b < s.heap.size) (hbA : ¬ B ≤ b) (w : Wd D B cy s s.heap M0 H locs) (hl : lv_has ls 4 [(3, .int 0), (2, .ref (B + 146)), (1, .ref (B + 0)), (0, .ref b)]) (x1 : xs 1 = 0) (x2 : xs 2 = (-1)) (kk : ∀ (M1 : Mem) (H1 : Heap) (locs1 : List Loc), Wd D B cy s s.heap M1 H1 locs1 → W p l e room_1 s m #[Value.ref b] below meth c H1 locs1 159 13107 Q (F0 m 1065 ls [])) : W p l e room_1 s m #[Value.ref b] below meth c H locs 159 13107 Q (F0 m 838 ls []) := by
  have hx := F.1
  have hb := F.2.1
  refine lv_aload_n hx hb dL_law_838 rfl (lv_at hl 2 rfl) ?_
  refine lv_aload_n hx hb dL_law_839 rfl (lv_at hl 3 rfl) ?_
  refine lv_iload_n hx hb dL_law_840 rfl (lv_at hl 0 rfl) ?_
  refine lv_iconst (v := 1) hx hb dL_law_841 (by decide) ?_
  refine lv_iadd hx hb dL_law_842 ?_
  refine r_val (v := 1) (by decide) ?_
  refine va_sld hx hb hX hbl hbA w.2.2.1 (vpi (by decide) (by decide)) dL_law_843 ?_
  refine r_val (v := 0) ((congrArg xs (show (1 : Int32).toNatClampNeg = 1 by decide)).trans x1) ?_
  refine lv_aload_n hx hb dL_law_844 rfl (lv_at hl 3 rfl) ?_
  refine lv_iload_n hx hb dL_law_845 rfl (lv_at hl 0 rfl) ?_
  refine lv_iconst (v := 2) hx hb dL_law_846 (by decide) ?_
  refine lv_iadd hx hb dL_law_847 ?_
  refine r_val (v := 2) (by decide) ?_
  refine va_sld hx hb hX hbl hbA w.2.2.1 (vpi (by decide) (by decide)) dL_law_848 ?_
  refine r_val (v := (-1)) ((congrArg xs (show (2 : Int32).toNatClampNeg = 2 by decide)).trans x2) ?_
  refine x_Vi F w (As := [.int 0, .int (-1)]) (rest := []) (a := 0) (by decide) (sh_11 rfl _ _) rfl (c_X11_spell_312 (rfl) (rfl) (rfl) (rfl) (rfl) (rfl) (rfl)) gv_L_103 hv_X11_spell ⟨Nat.le_of_ble_eq_true rfl, Nat.le_of_ble_eq_true rfl⟩ hl.1 rfl (Nat.le_of_ble_eq_true rfl) ⟨Nat.le_of_ble_eq_true rfl, Nat.le_of_ble_eq_true rfl⟩ dL_law_849 (fun H locs w => ?_)
  refine lv_aload_n hx hb dL_law_852 rfl (lv_at hl 1 rfl) ?_
  refine lv_aload_n hx hb dL_law_853 rfl (lv_at hl 3 rfl) ?_
  refine lv_iload_n hx hb dL_law_854 rfl (lv_at hl 0 rfl) ?_
  refine lv_iconst (v := 1) hx hb dL_law_855 (by decide) ?_
  refine lv_iadd hx hb dL_law_856 ?_
  refine r_val (v := 1) (by decide) ?_
  refine va_sld hx hb hX hbl hbA w.2.2.1 (vpi (by decide) (by decide)) dL_law_857 ?_
  refine r_val (v := 0) ((congrArg xs (show (1 : Int32).toNatClampNeg = 1 by decide)).trans x1) ?_
  refine lv_aload_n hx hb dL_law_858 rfl (lv_at hl 3 rfl) ?_
  refine lv_iload_n hx hb dL_law_859 rfl (lv_at hl 0 rfl) ?_
  refine lv_iconst (v := 2) hx hb dL_law_860 (by decide) ?_
  refine lv_iadd hx hb dL_law_861 ?_
  refine r_val (v := 2) (by decide) ?_
  refine va_sld hx hb hX hbl hbA w.2.2.1 (vpi (by decide) (by decide)) dL_law_862 ?_
  refine r_val (v := (-1)) ((congrArg xs (show (2 : Int32).toNatClampNeg = 2 by decide)).trans x2) ?_
  refine x_Vi F w (As := [.int 0, .int (-1)]) (rest := [.int 2]) (a := 146) (by decide) (sh_12 rfl _ _) rfl (c_X12_spell_316 ((st_ne (by decide)).trans ((st_ne (by decide)).trans ((st_ne (by decide)).trans ((st_ne (by decide)).trans rfl)))) ((st_ne (by decide)).trans ((st_ne (by decide)).trans ((st_ne (by decide)).trans ((st_ne (by decide)).trans rfl)))) ((st_ne (by decide)).trans ((st_ne (by decide)).trans ((st_ne (by decide)).trans ((st_ne (by decide)).trans rfl)))) ((st_ne (by decide)).trans ((st_ne (by decide)).trans ((st_ne (by decide)).trans ((st_ne (by decide)).trans rfl)))) ((st_ne (by decide)).trans ((st_ne (by decide)).trans ((st_ne (by decide)).trans ((st_ne (by decide)).trans rfl)))) ((st_ne (by decide)).trans ((st_ne (by decide)).trans ((st_ne (by decide)).trans ((st_ne (by decide)).trans rfl)))) ((st_ne (by decide)).trans ((st_ne (by decide)).trans ((st_ne (by decide)).trans ((st_ne (by decide)).trans rfl)))) ((st_ne (by decide)).trans ((st_ne (by decide)).trans ((st_ne (by decide)).trans ((st_ne (by decide)).trans rfl)))) ((st_ne (by decide)).trans ((st_ne (by decide)).trans ((st_ne (by decide)).trans ((st_ne (by decide)).trans rfl)))) ((st_ne (by decide)).trans ((st_ne (by decide)).trans ((st_ne (by decide)).trans ((st_ne (by decide)).trans rfl)))) ((st_ne (by decide)).trans ((st_ne (by decide)).trans ((st_ne (by decide)).trans ((st_ne (by decide)).trans rfl)))) ((st_ne (by decide)).trans ((st_ne (by decide)).trans ((st_ne (by decide)).trans ((st_ne (by decide)).trans rfl)))) ((st_ne (by decide)).trans ((st_ne (by decide)).trans ((st_ne (by decide)).trans ((st_ne (by decide)).trans rfl)))) ((st_ne (by decide)).trans ((st_ne (by decide)).trans ((st_ne (by decide)).trans ((st_ne (by decide)).trans rfl)))) ((st_ne (by decide)).trans ((st_ne (by decide)).trans ((st_ne (by decide)).trans ((st_ne (by decide)).trans rfl)))) ((st_ne (by decide)).trans ((st_ne (by decide)).trans ((st_ne (by decide)).trans ((st_ne (by decide)).trans rfl)))) ((st_ne (by decide)).trans ((st_ne (by decide)).trans ((st_ne (by decide)).trans ((st_ne (by decide)).trans rfl)))) ((st_ne (by decide)).trans ((st_ne (by decide)).trans ((st_ne (by decide)).trans ((st_ne (by decide)).trans rfl)))) ((st_ne (by decide)).trans ((st_ne (by decide)).trans ((st_ne (by decide)).trans ((st_ne (by decide)).trans rfl)))) ((st_ne (by decide)).trans ((st_ne (by decide)).trans ((st_ne (by decide)).trans ((st_ne (by decide)).trans rfl)))) ((st_ne (by decide)).trans ((st_ne (by decide)).trans ((st_ne (by decide)).trans ((st_ne (by decide)).trans rfl)))) ((st_ne (by decide)).trans ((st_ne (by decide)).trans ((st_ne (by decide)).trans ((st_ne (by decide)).trans rfl)))) ((st_ne (by decide)).trans ((st_ne (by decide)).trans ((st_ne (by decide)).trans ((st_ne (by decide)).trans rfl)))) ((st_ne (by decide)).trans ((st_ne (by decide)).trans ((st_ne (by decide)).trans ((st_ne (by decide)).trans rfl)))) ((st_ne (by decide)).trans ((st_ne (by decide)).trans ((st_ne (by decide)).trans ((st_ne (by decide)).trans rfl)))) ((st_ne (by decide)).trans ((st_ne (by decide)).trans ((st_ne (by decide)).trans ((st_ne (by decide)).trans rfl)))) ((st_ne (by decide)).trans ((st_ne (by decide)).trans ((st_ne (by decide)).trans ((st_ne (by decide)).trans rfl)))) ((st_ne (by decide)).trans ((st_ne (by decide)).trans ((st_ne (by decide)).trans ((st_ne (by decide)).trans rfl)))) ((st_ne (by decide)).trans ((st_ne (by decide)).trans ((st_ne (by decide)).trans ((st_ne (by decide)).trans rfl)))) ((st_ne (by decide)).trans ((st_ne (by decide)).trans ((st_ne (by decide)).trans ((st_ne (by decide)).trans rfl)))) ((st_ne (by decide)).trans ((st_ne (by decide)).trans ((st_ne (by decide)).trans ((st_ne (by decide)).trans rfl)))) ((st_ne (by decide)).trans ((st_ne (by decide)).trans ((st_ne (by decide)).trans ((st_ne (by decide)).trans rfl)))) ((st_ne (by decide)).trans ((st_ne (by decide)).trans ((st_ne (by decide)).trans ((st_ne (by decide)).trans rfl)))) ((st_ne (by decide)).trans ((st_ne (by decide)).trans ((st_ne (by decide)).trans ((st_ne (by decide)).trans rfl)))) ((st_ne (by decide)).trans ((st_ne (by decide)).trans ((st_ne (by decide)).trans ((st_ne (by decide)).trans rfl)))) ((st_ne (by decide)).trans ((st_ne (by decide)).trans ((st_ne (by decide)).trans ((st_ne (by decide)).trans rfl)))) ((st_ne (by decide)).trans ((st_ne (by decide)).trans ((st_ne (by decide)).trans ((st_ne (by decide)).trans rfl)))) ((st_ne (by decide)).trans ((st_ne (by decide)).trans ((st_ne (by decide)).trans ((st_ne (by decide)).trans rfl)))) ((st_ne (by decide)).trans ((st_ne (by decide)).trans ((st_ne (by decide)).trans ((st_ne (by decide)).trans rfl)))) ((st_ne (by decide)).trans ((st_ne (by decide)).trans ((st_ne (by decide)).trans ((st_ne (by decide)).trans rfl)))) ((st_ne (by decide)).trans ((st_ne (by decide)).trans ((st_ne (by decide)).trans ((st_ne (by decide)).trans rfl)))) ((st_ne (by decide)).trans ((st_ne (by decide)).trans ((st_ne (by decide)).trans ((st_ne (by decide)).trans rfl)))) ((st_ne (by decide)).trans ((st_ne (by decide)).trans ((st_ne (by decide)).trans ((st_ne (by decide)).trans rfl)))) ((st_ne (by decide)).trans ((st_ne (by decide)).trans ((st_ne (by decide)).trans ((st_ne (by decide)).trans rfl)))) ((st_ne (by decide)).trans ((st_ne (by decide)).trans ((st_ne (by decide)).trans ((st_ne (by decide)).trans rfl)))) ((st_ne (by decide)).trans ((st_ne (by decide)).trans ((st_ne (by decide)).trans ((st_ne (by decide)).trans rfl)))) ((st_ne (by decide)).trans ((st_ne (by decide)).trans ((st_ne (by decide)).trans ((st_ne (by decide)).trans rfl)))) ((st_ne (by decide)).trans ((st_ne (by decide)).trans ((st_ne (by decide)).trans ((st_ne (by decide)).trans rfl)))) ((st_ne (by decide)).trans ((st_ne (by decide)).trans ((st_ne (by decide)).trans ((st_ne (by decide)).trans rfl)))) ((st_ne (by decide)).trans ((st_ne (by decide)).trans ((st_ne (by decide)).trans ((st_ne (by decide)).trans rfl)))) ((st_ne (by decide)).trans ((st_ne (by decide)).trans ((st_ne (by decide)).trans ((st_ne (by decide)).trans rfl)))) ((st_ne (by decide)).trans ((st_ne (by decide)).trans ((st_ne (by decide)).trans ((st_ne (by decide)).trans rfl)))) ((st_ne (by decide)).trans ((st_ne (by decide)).trans ((st_ne (by decide)).trans ((st_ne (by decide)).trans rfl)))) ((st_ne (by decide)).trans ((st_ne (by decide)).trans ((st_ne (by decide)).trans ((st_ne (by decide)).trans rfl)))) ((st_ne (by decide)).trans ((st_ne (by decide)).trans ((st_ne (by decide)).trans ((st_ne (by decide)).trans rfl)))) ((st_ne (by decide)).trans ((st_ne (by decide)).trans ((st_ne (by decide)).trans ((st_ne (by decide)).trans rfl)))) ((st_ne (by decide)).trans ((st_ne (by decide)).trans ((st_ne (by decide)).trans ((st_ne (by decide)).trans rfl)))) ((st_ne (by decide)).trans ((st_ne (by decide)).trans ((st_ne (by decide)).trans ((st_ne (by decide)).trans rfl)))) ((st_ne (by decide)).trans ((st_ne (by decide)).trans ((st_ne (by decide)).trans ((st_ne (by decide)).trans rfl)))) ((st_ne (by decide)).trans ((st_ne (by decide)).trans ((st_ne (by decide)).trans ((st_ne (by decide)).trans rfl))))) gv_L_106 hv_X12_spell ⟨Nat.le_of_ble_eq_true rfl, Nat.le_of_ble_eq_true rfl⟩ hl.1 rfl (Nat.le_of_ble_eq_true rfl) ⟨Nat.le_of_ble_eq_true rfl, Nat.le_of_ble_eq_true rfl⟩ dL_law_863 (fun H locs w => ?_)
  refine lv_icmp_eq (tgt := 1065) hx hb dL_law_866 (by decide) (fun _ => ?_) (fun c1 => absurd c1 (by decide))
  exact kk _ _ _ w
theorem dX11_spell_46 : decode cX11_spell 46 = .ok (.iload_n 2, 1) := by decide +kernel
theorem dX11_spell_47 : decode cX11_spell 47 = .ok (.aload_n 0, 1) := by decide +kernel
theorem dX11_spell_48 : decode cX11_spell 48 = .ok (.getfield 68, 3) := by decide +kernel
theorem dX11_spell_51 : decode cX11_spell 51 = .ok (.getfield 248, 3) := by decide +kernel
theorem dX11_spell_54 : decode cX11_spell 54 = .ok (.if_icmp .ge 15, 3) := by decide +kernel
theorem dX11_spell_57 : decode cX11_spell 57 = .ok (.aload_n 0, 1) := by decide +kernel
theorem dX11_spell_58 : decode cX11_spell 58 = .ok (.getfield 68, 3) := by decide +kernel
theorem dX11_spell_61 : decode cX11_spell 61 = .ok (.getfield 249, 3) := by decide +kernel
theorem tb_483 : Cond.fieldLink "ToneLines" 249 "ToneLines$Speller" "signs" "[C" ∈ TB := tbm (tc2 (List.mem_of_getElem? (i := 46) rfl)) rfl
theorem dX11_spell_64 : decode cX11_spell 64 = .ok (.iload_n 2, 1) := by decide +kernel
theorem dX11_spell_65 : decode cX11_spell 65 = .ok (.caload, 1) := by decide +kernel
theorem dX11_spell_66 : decode cX11_spell 66 = .ok (.goto 4, 3) := by decide +kernel
theorem dX11_spell_70 : decode cX11_spell 70 = .ok (.ireturn, 1) := by decide +kernel
set_option maxRecDepth 4000 in
theorem c_X11_spell_317 {l : Launch} {D : va_G} {B : Nat} {cy : Nat → ClassId} {M : Mem} (h0 : M.1 22 2 = 0) (h1 : M.1 22 7 = 0) (h2 : M.1 141 1 = 0) (h3 : M.1 44 0 = 0) (h4 : M.1 142 0 = 0) (h5 : M.1 44 1 = 0) (h6 : M.1 142 1 = 0) : Ci l D B cy yX11_spell cX11_spell 3 (some .int) 2 47 [.ref (B + 0), .int 0, .int 0] M (fun r M1 => r = 47 ∧ M1 = (st (st (st (st M 142 0 47) 141 1 1) 142 1 47) 141 1 2)) := by
  refine s_any (by decide) (Nat.le_of_ble_eq_true rfl) ?_
  intro p e s m below meth c ls F hr hlocks w hl
  have F : CallFix p m c cX11_spell 3 s _ TB RX11 := F
  have hx := F.1
  have hb := F.2.1
  have hl : lv_has ls 3 [(0, .ref (B + 0)), (1, .int 0), (2, .int 0)] := hl
  refine lv_aload_n hx hb dX11_spell_0 rfl (lv_at hl 0 rfl) ?_
  refine f_11_3 F w (a := 0) rfl tb_73 dX11_spell_1 ?_
  refine lv_iload_n hx hb dX11_spell_4 rfl (lv_at hl 1 rfl) ?_
  refine x_Vi F w (As := [.int 0]) (rest := []) (a := 22) (by decide) (sh_0 rfl _ _) rfl (c_X0_covers_206 (h0)) gv_X11_193 hv_X0_covers ⟨Nat.le_of_ble_eq_true rfl, Nat.le_of_ble_eq_true rfl⟩ hl.1 rfl (Nat.le_of_ble_eq_true rfl) ⟨Nat.zero_le _, Nat.zero_le _⟩ dX11_spell_5 (fun H locs w => ?_)
  refine lv_if_eq (tgt := 16) hx hb dX11_spell_8 (by decide) (fun c1 => absurd c1 (by decide)) (fun _ => ?_)
  refine lv_iload_n hx hb dX11_spell_11 rfl (lv_at hl 2 rfl) ?_
  refine lv_iconst (v := (-1)) hx hb dX11_spell_12 (by decide) ?_
  refine lv_icmp_ge (tgt := 18) hx hb dX11_spell_13 (by decide) (fun _ => ?_) (fun c1 => absurd c1 (by decide))
  refine lv_aload_n hx hb dX11_spell_18 rfl (lv_at hl 0 rfl) ?_
  refine f_11_8 F w (a := 0) rfl tb_122 dX11_spell_19 ?_
  refine lv_aload_n hx hb dX11_spell_22 rfl (lv_at hl 0 rfl) ?_
  refine f_11_3 F w (a := 0) rfl tb_73 dX11_spell_23 ?_
  refine lv_iload_n hx hb dX11_spell_26 rfl (lv_at hl 1 rfl) ?_
  refine x_Vr F w (As := [.int 0]) (rest := [.ref (B + 141)]) (a := 22) (by decide) (sh_0 rfl _ _) rfl (c_X0_stageOf_207 (h0) (h1)) gv_X11_196 hv_X0_stageOf ⟨Nat.le_of_ble_eq_true rfl, Nat.le_of_ble_eq_true rfl⟩ hl.1 rfl (Nat.le_of_ble_eq_true rfl) ⟨Nat.zero_le _, Nat.zero_le _⟩ dX11_spell_27 (fun H locs w => ?_)
  refine x_Vv F w (As := [.ref (B + 44)]) (rest := []) (a := 141) (by decide) (sh_7 rfl _ _) rfl (c_X7_write_311 (h2) (h3) (h4) (h5) (h6)) gv_X11_245 hv_X7_write ⟨Nat.le_of_ble_eq_true rfl, Nat.le_of_ble_eq_true rfl⟩ hl.1 rfl (Nat.le_of_ble_eq_true rfl) ⟨Nat.zero_le _, Nat.zero_le _⟩ dX11_spell_30 (fun H locs w => ?_)
  refine lv_iload_n hx hb dX11_spell_33 rfl (lv_at hl 2 rfl) ?_
  refine lv_iconst (v := (-1)) hx hb dX11_spell_34 (by decide) ?_
  refine lv_icmp_ne (tgt := 46) hx hb dX11_spell_35 (by decide) (fun _ => ?_) (fun c1 => absurd c1 (by decide))
  refine lv_iload_n hx hb dX11_spell_46 rfl (lv_at hl 2 rfl) ?_
  refine lv_aload_n hx hb dX11_spell_47 rfl (lv_at hl 0 rfl) ?_
  refine f_11_8 F w (a := 0) rfl tb_122 dX11_spell_48 ?_
  refine f_7_1 F w (a := 141) rfl tb_475 dX11_spell_51 ?_
  refine r_val (v := 2) (st_at) ?_
  refine lv_icmp_ge (tgt := 69) hx hb dX11_spell_54 (by decide) (fun c1 => absurd c1 (by decide)) (fun _ => ?_)
  refine lv_aload_n hx hb dX11_spell_57 rfl (lv_at hl 0 rfl) ?_
  refine f_11_8 F w (a := 0) rfl tb_122 dX11_spell_58 ?_
  refine f_7_0 F w (a := 141) rfl tb_483 dX11_spell_61 ?_
  refine lv_iload_n hx hb dX11_spell_64 rfl (lv_at hl 2 rfl) ?_
  refine g_cald F w (a := 142) rfl (j := 0) ⟨by decide, by decide⟩ (by decide) dX11_spell_65 ?_
  refine r_val (v := 47) ((st_ne (by decide)).trans ((st_ne (by decide)).trans ((st_ne (by decide)).trans st_at))) ?_
  refine lv_goto (tgt := 70) hx hb dX11_spell_66 (by decide) ?_
  exact e_i F w hr hlocks ⟨rfl, rfl⟩ dX11_spell_70
theorem dX12_spell_31 : decode cX12_spell 31 = .ok (.iload_n 2, 1) := by decide +kernel
theorem dX12_spell_32 : decode cX12_spell 32 = .ok (.aload_n 0, 1) := by decide +kernel
theorem dX12_spell_33 : decode cX12_spell 33 = .ok (.getfield 291, 3) := by decide +kernel
theorem dX12_spell_36 : decode cX12_spell 36 = .ok (.if_icmp .ge 12, 3) := by decide +kernel
theorem dX12_spell_39 : decode cX12_spell 39 = .ok (.aload_n 0, 1) := by decide +kernel
theorem dX12_spell_40 : decode cX12_spell 40 = .ok (.getfield 42, 3) := by decide +kernel
theorem dX12_spell_43 : decode cX12_spell 43 = .ok (.iload_n 2, 1) := by decide +kernel
theorem dX12_spell_44 : decode cX12_spell 44 = .ok (.iaload, 1) := by decide +kernel
theorem dX12_spell_45 : decode cX12_spell 45 = .ok (.goto 4, 3) := by decide +kernel
set_option maxRecDepth 4000 in
theorem c_X12_spell_318 {l : Launch} {D : va_G} {B : Nat} {cy : Nat → ClassId} {M : Mem} (h0 : M.1 146 5 = 0) (h1 : M.1 147 0 = 0) (h2 : M.1 148 0 = 0) (h3 : M.1 147 1 = 0) (h4 : M.1 148 1 = 0) (h5 : M.1 147 2 = 0) (h6 : M.1 148 2 = 0) (h7 : M.1 147 3 = 0) (h8 : M.1 148 3 = 0) (h9 : M.1 147 4 = 0) (h10 : M.1 148 4 = 0) (h11 : M.1 147 5 = 0) (h12 : M.1 148 5 = 0) (h13 : M.1 147 6 = 0) (h14 : M.1 148 6 = 0) (h15 : M.1 147 7 = 0) (h16 : M.1 148 7 = 0) (h17 : M.1 147 8 = 0) (h18 : M.1 148 8 = 0) (h19 : M.1 147 9 = 0) (h20 : M.1 148 9 = 0) (h21 : M.1 147 10 = 0) (h22 : M.1 148 10 = 0) (h23 : M.1 147 11 = 0) (h24 : M.1 148 11 = 0) (h25 : M.1 147 12 = 0) (h26 : M.1 148 12 = 0) (h27 : M.1 147 13 = 0) (h28 : M.1 148 13 = 0) (h29 : M.1 147 14 = 0) (h30 : M.1 148 14 = 0) (h31 : M.1 147 15 = 0) (h32 : M.1 148 15 = 0) (h33 : M.1 147 16 = 0) (h34 : M.1 148 16 = 0) (h35 : M.1 147 17 = 0) (h36 : M.1 148 17 = 0) (h37 : M.1 147 18 = 0) (h38 : M.1 148 18 = 0) (h39 : M.1 147 19 = 0) (h40 : M.1 148 19 = 0) (h41 : M.1 147 20 = 0) (h42 : M.1 148 20 = 0) (h43 : M.1 147 21 = 0) (h44 : M.1 148 21 = 0) (h45 : M.1 147 22 = 0) (h46 : M.1 148 22 = 0) (h47 : M.1 147 23 = 0) (h48 : M.1 148 23 = 0) (h49 : M.1 147 24 = 0) (h50 : M.1 148 24 = 0) (h51 : M.1 147 25 = 0) (h52 : M.1 148 25 = 0) (h53 : M.1 147 26 = 0) (h54 : M.1 148 26 = 0) (h55 : M.1 147 27 = 0) (h56 : M.1 148 27 = 0) (h57 : M.1 146 22 = 0) (h58 : M.1 156 0 = 0) (h59 : M.1 156 1 = 0) : Ci l D B cy yX12_spell cX12_spell 3 (some .int) 3 66 [.ref (B + 146), .int 0, .int 0] M (fun r M1 => r = 47 ∧ M1 = (st (st (st (st M 156 0 47) 146 22 1) 156 1 47) 146 22 2)) := by
  refine s_any (by decide) (Nat.le_of_ble_eq_true rfl) ?_
  intro p e s m below meth c ls F hr hlocks w hl
  have F : CallFix p m c cX12_spell 3 s _ TB RX12 := F
  have hx := F.1
  have hb := F.2.1
  have hl : lv_has ls 3 [(0, .ref (B + 146)), (1, .int 0), (2, .int 0)] := hl
  refine lv_aload_n hx hb dX12_spell_0 rfl (lv_at hl 0 rfl) ?_
  refine lv_iload_n hx hb dX12_spell_1 rfl (lv_at hl 1 rfl) ?_
  refine x_Vi F w (As := [.int 0]) (rest := []) (a := 146) (by decide) (sh_12 rfl _ _) rfl (c_X12_lays_224 (h0) (h1) (h2) (h3) (h4) (h5) (h6) (h7) (h8) (h9) (h10) (h11) (h12) (h13) (h14) (h15) (h16) (h17) (h18) (h19) (h20) (h21) (h22) (h23) (h24) (h25) (h26) (h27) (h28) (h29) (h30) (h31) (h32) (h33) (h34) (h35) (h36) (h37) (h38) (h39) (h40) (h41) (h42) (h43) (h44) (h45) (h46) (h47) (h48) (h49) (h50) (h51) (h52) (h53) (h54) (h55) (h56)) gv_X12_261 hv_X12_lays ⟨Nat.le_of_ble_eq_true rfl, Nat.le_of_ble_eq_true rfl⟩ hl.1 rfl (Nat.le_of_ble_eq_true rfl) ⟨Nat.zero_le _, Nat.zero_le _⟩ dX12_spell_2 (fun H locs w => ?_)
  refine lv_if_eq (tgt := 13) hx hb dX12_spell_5 (by decide) (fun c1 => absurd c1 (by decide)) (fun _ => ?_)
  refine lv_iload_n hx hb dX12_spell_8 rfl (lv_at hl 2 rfl) ?_
  refine lv_iconst (v := (-1)) hx hb dX12_spell_9 (by decide) ?_
  refine lv_icmp_ge (tgt := 15) hx hb dX12_spell_10 (by decide) (fun _ => ?_) (fun c1 => absurd c1 (by decide))
  refine lv_aload_n hx hb dX12_spell_15 rfl (lv_at hl 0 rfl) ?_
  refine x_Vv F w (As := []) (rest := []) (a := 146) (by decide) (sh_12 rfl _ _) rfl (c_X12_writesWord_315 (h57) (h2) (h58) (h52) (h59)) gv_X12_300 hv_X12_writesWord ⟨Nat.le_of_ble_eq_true rfl, Nat.le_of_ble_eq_true rfl⟩ hl.1 rfl (Nat.le_of_ble_eq_true rfl) ⟨Nat.zero_le _, Nat.zero_le _⟩ dX12_spell_16 (fun H locs w => ?_)
  refine lv_iload_n hx hb dX12_spell_19 rfl (lv_at hl 2 rfl) ?_
  refine lv_iconst (v := (-1)) hx hb dX12_spell_20 (by decide) ?_
  refine lv_icmp_ne (tgt := 31) hx hb dX12_spell_21 (by decide) (fun _ => ?_) (fun c1 => absurd c1 (by decide))
  refine lv_iload_n hx hb dX12_spell_31 rfl (lv_at hl 2 rfl) ?_
  refine lv_aload_n hx hb dX12_spell_32 rfl (lv_at hl 0 rfl) ?_
  refine f_12_22 F w (a := 146) rfl tb_476 dX12_spell_33 ?_
  refine r_val (v := 2) (st_at) ?_
  refine lv_icmp_ge (tgt := 48) hx hb dX12_spell_36 (by decide) (fun c1 => absurd c1 (by decide)) (fun _ => ?_)
  refine lv_aload_n hx hb dX12_spell_39 rfl (lv_at hl 0 rfl) ?_
  refine f_12_21 F w (a := 146) rfl tb_135 dX12_spell_40 ?_
  refine lv_iload_n hx hb dX12_spell_43 rfl (lv_at hl 2 rfl) ?_
  refine g_iald F w (a := 156) rfl (j := 0) ⟨by decide, by decide⟩ (by decide) dX12_spell_44 ?_
  refine r_val (v := 47) ((st_ne (by decide)).trans ((st_ne (by decide)).trans ((st_ne (by decide)).trans st_at))) ?_
  refine lv_goto (tgt := 49) hx hb dX12_spell_45 (by decide) ?_
  exact e_i F w hr hlocks ⟨rfl, rfl⟩ dX12_spell_49
set_option maxRecDepth 8000 in
theorem la_20_75 {p : Program} {l : Launch} {e : Env} {s : State} {m : MethodId} {below : List Frame} {meth : Method} {c : Code} {D : va_G} {B b : Nat} {cy : Nat → ClassId} {H : Heap} {locs : List Loc} {ls : Array Slot} {xs : Nat → Int32} {Q : State → Prop} (F : CallFix p m c code 4 s #[Value.ref b] TB RL) (hX : va_X b 6 xs s s.heap) (hbl : b < s.heap.size) (hbA : ¬ B ≤ b) (w : Wd D B cy s s.heap M0 H locs) (hl : lv_has ls 4 [(3, .int 0), (2, .ref (B + 146)), (1, .ref (B + 0)), (0, .ref b)]) (x1 : xs 1 = 0) (x2 : xs 2 = 0) (kk : ∀ (M1 : Mem) (H1 : Heap) (locs1 : List Loc), Wd D B cy s s.heap M1 H1 locs1 → W p l e room_1 s m #[Value.ref b] below meth c H1 locs1 159 13107 Q (F0 m 1065 ls [])) : W p l e room_1 s m #[Value.ref b] below meth c H locs 159 13107 Q (F0 m 838 ls []) := by
  have hx := F.1
  have hb := F.2.1
  refine lv_aload_n hx hb dL_law_838 rfl (lv_at hl 2 rfl) ?_
  refine lv_aload_n hx hb dL_law_839 rfl (lv_at hl 3 rfl) ?_
  refine lv_iload_n hx hb dL_law_840 rfl (lv_at hl 0 rfl) ?_
  refine lv_iconst (v := 1) hx hb dL_law_841 (by decide) ?_
  refine lv_iadd hx hb dL_law_842 ?_
  refine r_val (v := 1) (by decide) ?_
  refine va_sld hx hb hX hbl hbA w.2.2.1 (vpi (by decide) (by decide)) dL_law_843 ?_
  refine r_val (v := 0) ((congrArg xs (show (1 : Int32).toNatClampNeg = 1 by decide)).trans x1) ?_
  refine lv_aload_n hx hb dL_law_844 rfl (lv_at hl 3 rfl) ?_
  refine lv_iload_n hx hb dL_law_845 rfl (lv_at hl 0 rfl) ?_
  refine lv_iconst (v := 2) hx hb dL_law_846 (by decide) ?_
  refine lv_iadd hx hb dL_law_847 ?_
  refine r_val (v := 2) (by decide) ?_
  refine va_sld hx hb hX hbl hbA w.2.2.1 (vpi (by decide) (by decide)) dL_law_848 ?_
  refine r_val (v := 0) ((congrArg xs (show (2 : Int32).toNatClampNeg = 2 by decide)).trans x2) ?_
  refine x_Vi F w (As := [.int 0, .int 0]) (rest := []) (a := 0) (by decide) (sh_11 rfl _ _) rfl (c_X11_spell_317 (rfl) (rfl) (rfl) (rfl) (rfl) (rfl) (rfl)) gv_L_103 hv_X11_spell ⟨Nat.le_of_ble_eq_true rfl, Nat.le_of_ble_eq_true rfl⟩ hl.1 rfl (Nat.le_of_ble_eq_true rfl) ⟨Nat.le_of_ble_eq_true rfl, Nat.le_of_ble_eq_true rfl⟩ dL_law_849 (fun H locs w => ?_)
  refine lv_aload_n hx hb dL_law_852 rfl (lv_at hl 1 rfl) ?_
  refine lv_aload_n hx hb dL_law_853 rfl (lv_at hl 3 rfl) ?_
  refine lv_iload_n hx hb dL_law_854 rfl (lv_at hl 0 rfl) ?_
  refine lv_iconst (v := 1) hx hb dL_law_855 (by decide) ?_
  refine lv_iadd hx hb dL_law_856 ?_
  refine r_val (v := 1) (by decide) ?_
  refine va_sld hx hb hX hbl hbA w.2.2.1 (vpi (by decide) (by decide)) dL_law_857 ?_
  refine r_val (v := 0) ((congrArg xs (show (1 : Int32).toNatClampNeg = 1 by decide)).trans x1) ?_
  refine lv_aload_n hx hb dL_law_858 rfl (lv_at hl 3 rfl) ?_
  refine lv_iload_n hx hb dL_law_859 rfl (lv_at hl 0 rfl) ?_
  refine lv_iconst (v := 2) hx hb dL_law_860 (by decide) ?_
  refine lv_iadd hx hb dL_law_861 ?_
  refine r_val (v := 2) (by decide) ?_
  refine va_sld hx hb hX hbl hbA w.2.2.1 (vpi (by decide) (by decide)) dL_law_862 ?_
  refine r_val (v := 0) ((congrArg xs (show (2 : Int32).toNatClampNeg = 2 by decide)).trans x2) ?_
  refine x_Vi F w (As := [.int 0, .int 0]) (rest := [.int 47]) (a := 146) (by decide) (sh_12 rfl _ _) rfl (c_X12_spell_318 ((st_ne (by decide)).trans ((st_ne (by decide)).trans ((st_ne (by decide)).trans ((st_ne (by decide)).trans rfl)))) ((st_ne (by decide)).trans ((st_ne (by decide)).trans ((st_ne (by decide)).trans ((st_ne (by decide)).trans rfl)))) ((st_ne (by decide)).trans ((st_ne (by decide)).trans ((st_ne (by decide)).trans ((st_ne (by decide)).trans rfl)))) ((st_ne (by decide)).trans ((st_ne (by decide)).trans ((st_ne (by decide)).trans ((st_ne (by decide)).trans rfl)))) ((st_ne (by decide)).trans ((st_ne (by decide)).trans ((st_ne (by decide)).trans ((st_ne (by decide)).trans rfl)))) ((st_ne (by decide)).trans ((st_ne (by decide)).trans ((st_ne (by decide)).trans ((st_ne (by decide)).trans rfl)))) ((st_ne (by decide)).trans ((st_ne (by decide)).trans ((st_ne (by decide)).trans ((st_ne (by decide)).trans rfl)))) ((st_ne (by decide)).trans ((st_ne (by decide)).trans ((st_ne (by decide)).trans ((st_ne (by decide)).trans rfl)))) ((st_ne (by decide)).trans ((st_ne (by decide)).trans ((st_ne (by decide)).trans ((st_ne (by decide)).trans rfl)))) ((st_ne (by decide)).trans ((st_ne (by decide)).trans ((st_ne (by decide)).trans ((st_ne (by decide)).trans rfl)))) ((st_ne (by decide)).trans ((st_ne (by decide)).trans ((st_ne (by decide)).trans ((st_ne (by decide)).trans rfl)))) ((st_ne (by decide)).trans ((st_ne (by decide)).trans ((st_ne (by decide)).trans ((st_ne (by decide)).trans rfl)))) ((st_ne (by decide)).trans ((st_ne (by decide)).trans ((st_ne (by decide)).trans ((st_ne (by decide)).trans rfl)))) ((st_ne (by decide)).trans ((st_ne (by decide)).trans ((st_ne (by decide)).trans ((st_ne (by decide)).trans rfl)))) ((st_ne (by decide)).trans ((st_ne (by decide)).trans ((st_ne (by decide)).trans ((st_ne (by decide)).trans rfl)))) ((st_ne (by decide)).trans ((st_ne (by decide)).trans ((st_ne (by decide)).trans ((st_ne (by decide)).trans rfl)))) ((st_ne (by decide)).trans ((st_ne (by decide)).trans ((st_ne (by decide)).trans ((st_ne (by decide)).trans rfl)))) ((st_ne (by decide)).trans ((st_ne (by decide)).trans ((st_ne (by decide)).trans ((st_ne (by decide)).trans rfl)))) ((st_ne (by decide)).trans ((st_ne (by decide)).trans ((st_ne (by decide)).trans ((st_ne (by decide)).trans rfl)))) ((st_ne (by decide)).trans ((st_ne (by decide)).trans ((st_ne (by decide)).trans ((st_ne (by decide)).trans rfl)))) ((st_ne (by decide)).trans ((st_ne (by decide)).trans ((st_ne (by decide)).trans ((st_ne (by decide)).trans rfl)))) ((st_ne (by decide)).trans ((st_ne (by decide)).trans ((st_ne (by decide)).trans ((st_ne (by decide)).trans rfl)))) ((st_ne (by decide)).trans ((st_ne (by decide)).trans ((st_ne (by decide)).trans ((st_ne (by decide)).trans rfl)))) ((st_ne (by decide)).trans ((st_ne (by decide)).trans ((st_ne (by decide)).trans ((st_ne (by decide)).trans rfl)))) ((st_ne (by decide)).trans ((st_ne (by decide)).trans ((st_ne (by decide)).trans ((st_ne (by decide)).trans rfl)))) ((st_ne (by decide)).trans ((st_ne (by decide)).trans ((st_ne (by decide)).trans ((st_ne (by decide)).trans rfl)))) ((st_ne (by decide)).trans ((st_ne (by decide)).trans ((st_ne (by decide)).trans ((st_ne (by decide)).trans rfl)))) ((st_ne (by decide)).trans ((st_ne (by decide)).trans ((st_ne (by decide)).trans ((st_ne (by decide)).trans rfl)))) ((st_ne (by decide)).trans ((st_ne (by decide)).trans ((st_ne (by decide)).trans ((st_ne (by decide)).trans rfl)))) ((st_ne (by decide)).trans ((st_ne (by decide)).trans ((st_ne (by decide)).trans ((st_ne (by decide)).trans rfl)))) ((st_ne (by decide)).trans ((st_ne (by decide)).trans ((st_ne (by decide)).trans ((st_ne (by decide)).trans rfl)))) ((st_ne (by decide)).trans ((st_ne (by decide)).trans ((st_ne (by decide)).trans ((st_ne (by decide)).trans rfl)))) ((st_ne (by decide)).trans ((st_ne (by decide)).trans ((st_ne (by decide)).trans ((st_ne (by decide)).trans rfl)))) ((st_ne (by decide)).trans ((st_ne (by decide)).trans ((st_ne (by decide)).trans ((st_ne (by decide)).trans rfl)))) ((st_ne (by decide)).trans ((st_ne (by decide)).trans ((st_ne (by decide)).trans ((st_ne (by decide)).trans rfl)))) ((st_ne (by decide)).trans ((st_ne (by decide)).trans ((st_ne (by decide)).trans ((st_ne (by decide)).trans rfl)))) ((st_ne (by decide)).trans ((st_ne (by decide)).trans ((st_ne (by decide)).trans ((st_ne (by decide)).trans rfl)))) ((st_ne (by decide)).trans ((st_ne (by decide)).trans ((st_ne (by decide)).trans ((st_ne (by decide)).trans rfl)))) ((st_ne (by decide)).trans ((st_ne (by decide)).trans ((st_ne (by decide)).trans ((st_ne (by decide)).trans rfl)))) ((st_ne (by decide)).trans ((st_ne (by decide)).trans ((st_ne (by decide)).trans ((st_ne (by decide)).trans rfl)))) ((st_ne (by decide)).trans ((st_ne (by decide)).trans ((st_ne (by decide)).trans ((st_ne (by decide)).trans rfl)))) ((st_ne (by decide)).trans ((st_ne (by decide)).trans ((st_ne (by decide)).trans ((st_ne (by decide)).trans rfl)))) ((st_ne (by decide)).trans ((st_ne (by decide)).trans ((st_ne (by decide)).trans ((st_ne (by decide)).trans rfl)))) ((st_ne (by decide)).trans ((st_ne (by decide)).trans ((st_ne (by decide)).trans ((st_ne (by decide)).trans rfl)))) ((st_ne (by decide)).trans ((st_ne (by decide)).trans ((st_ne (by decide)).trans ((st_ne (by decide)).trans rfl)))) ((st_ne (by decide)).trans ((st_ne (by decide)).trans ((st_ne (by decide)).trans ((st_ne (by decide)).trans rfl)))) ((st_ne (by decide)).trans ((st_ne (by decide)).trans ((st_ne (by decide)).trans ((st_ne (by decide)).trans rfl)))) ((st_ne (by decide)).trans ((st_ne (by decide)).trans ((st_ne (by decide)).trans ((st_ne (by decide)).trans rfl)))) ((st_ne (by decide)).trans ((st_ne (by decide)).trans ((st_ne (by decide)).trans ((st_ne (by decide)).trans rfl)))) ((st_ne (by decide)).trans ((st_ne (by decide)).trans ((st_ne (by decide)).trans ((st_ne (by decide)).trans rfl)))) ((st_ne (by decide)).trans ((st_ne (by decide)).trans ((st_ne (by decide)).trans ((st_ne (by decide)).trans rfl)))) ((st_ne (by decide)).trans ((st_ne (by decide)).trans ((st_ne (by decide)).trans ((st_ne (by decide)).trans rfl)))) ((st_ne (by decide)).trans ((st_ne (by decide)).trans ((st_ne (by decide)).trans ((st_ne (by decide)).trans rfl)))) ((st_ne (by decide)).trans ((st_ne (by decide)).trans ((st_ne (by decide)).trans ((st_ne (by decide)).trans rfl)))) ((st_ne (by decide)).trans ((st_ne (by decide)).trans ((st_ne (by decide)).trans ((st_ne (by decide)).trans rfl)))) ((st_ne (by decide)).trans ((st_ne (by decide)).trans ((st_ne (by decide)).trans ((st_ne (by decide)).trans rfl)))) ((st_ne (by decide)).trans ((st_ne (by decide)).trans ((st_ne (by decide)).trans ((st_ne (by decide)).trans rfl)))) ((st_ne (by decide)).trans ((st_ne (by decide)).trans ((st_ne (by decide)).trans ((st_ne (by decide)).trans rfl)))) ((st_ne (by decide)).trans ((st_ne (by decide)).trans ((st_ne (by decide)).trans ((st_ne (by decide)).trans rfl)))) ((st_ne (by decide)).trans ((st_ne (by decide)).trans ((st_ne (by decide)).trans ((st_ne (by decide)).trans rfl))))) gv_L_106 hv_X12_spell ⟨Nat.le_of_ble_eq_true rfl, Nat.le_of_ble_eq_true rfl⟩ hl.1 rfl (Nat.le_of_ble_eq_true rfl) ⟨Nat.le_of_ble_eq_true rfl, Nat.le_of_ble_eq_true rfl⟩ dL_law_863 (fun H locs w => ?_)
  refine lv_icmp_eq (tgt := 1065) hx hb dL_law_866 (by decide) (fun _ => ?_) (fun c1 => absurd c1 (by decide))
  exact kk _ _ _ w
set_option maxRecDepth 4000 in
theorem c_X11_spell_319 {l : Launch} {D : va_G} {B : Nat} {cy : Nat → ClassId} {M : Mem} (h0 : M.1 22 2 = 0) (h1 : M.1 22 7 = 0) (h2 : M.1 141 1 = 0) (h3 : M.1 44 0 = 0) (h4 : M.1 142 0 = 0) (h5 : M.1 44 1 = 0) (h6 : M.1 142 1 = 0) : Ci l D B cy yX11_spell cX11_spell 3 (some .int) 2 47 [.ref (B + 0), .int 0, .int 1] M (fun r M1 => r = 47 ∧ M1 = (st (st (st (st M 142 0 47) 141 1 1) 142 1 47) 141 1 2)) := by
  refine s_any (by decide) (Nat.le_of_ble_eq_true rfl) ?_
  intro p e s m below meth c ls F hr hlocks w hl
  have F : CallFix p m c cX11_spell 3 s _ TB RX11 := F
  have hx := F.1
  have hb := F.2.1
  have hl : lv_has ls 3 [(0, .ref (B + 0)), (1, .int 0), (2, .int 1)] := hl
  refine lv_aload_n hx hb dX11_spell_0 rfl (lv_at hl 0 rfl) ?_
  refine f_11_3 F w (a := 0) rfl tb_73 dX11_spell_1 ?_
  refine lv_iload_n hx hb dX11_spell_4 rfl (lv_at hl 1 rfl) ?_
  refine x_Vi F w (As := [.int 0]) (rest := []) (a := 22) (by decide) (sh_0 rfl _ _) rfl (c_X0_covers_206 (h0)) gv_X11_193 hv_X0_covers ⟨Nat.le_of_ble_eq_true rfl, Nat.le_of_ble_eq_true rfl⟩ hl.1 rfl (Nat.le_of_ble_eq_true rfl) ⟨Nat.zero_le _, Nat.zero_le _⟩ dX11_spell_5 (fun H locs w => ?_)
  refine lv_if_eq (tgt := 16) hx hb dX11_spell_8 (by decide) (fun c1 => absurd c1 (by decide)) (fun _ => ?_)
  refine lv_iload_n hx hb dX11_spell_11 rfl (lv_at hl 2 rfl) ?_
  refine lv_iconst (v := (-1)) hx hb dX11_spell_12 (by decide) ?_
  refine lv_icmp_ge (tgt := 18) hx hb dX11_spell_13 (by decide) (fun _ => ?_) (fun c1 => absurd c1 (by decide))
  refine lv_aload_n hx hb dX11_spell_18 rfl (lv_at hl 0 rfl) ?_
  refine f_11_8 F w (a := 0) rfl tb_122 dX11_spell_19 ?_
  refine lv_aload_n hx hb dX11_spell_22 rfl (lv_at hl 0 rfl) ?_
  refine f_11_3 F w (a := 0) rfl tb_73 dX11_spell_23 ?_
  refine lv_iload_n hx hb dX11_spell_26 rfl (lv_at hl 1 rfl) ?_
  refine x_Vr F w (As := [.int 0]) (rest := [.ref (B + 141)]) (a := 22) (by decide) (sh_0 rfl _ _) rfl (c_X0_stageOf_207 (h0) (h1)) gv_X11_196 hv_X0_stageOf ⟨Nat.le_of_ble_eq_true rfl, Nat.le_of_ble_eq_true rfl⟩ hl.1 rfl (Nat.le_of_ble_eq_true rfl) ⟨Nat.zero_le _, Nat.zero_le _⟩ dX11_spell_27 (fun H locs w => ?_)
  refine x_Vv F w (As := [.ref (B + 44)]) (rest := []) (a := 141) (by decide) (sh_7 rfl _ _) rfl (c_X7_write_311 (h2) (h3) (h4) (h5) (h6)) gv_X11_245 hv_X7_write ⟨Nat.le_of_ble_eq_true rfl, Nat.le_of_ble_eq_true rfl⟩ hl.1 rfl (Nat.le_of_ble_eq_true rfl) ⟨Nat.zero_le _, Nat.zero_le _⟩ dX11_spell_30 (fun H locs w => ?_)
  refine lv_iload_n hx hb dX11_spell_33 rfl (lv_at hl 2 rfl) ?_
  refine lv_iconst (v := (-1)) hx hb dX11_spell_34 (by decide) ?_
  refine lv_icmp_ne (tgt := 46) hx hb dX11_spell_35 (by decide) (fun _ => ?_) (fun c1 => absurd c1 (by decide))
  refine lv_iload_n hx hb dX11_spell_46 rfl (lv_at hl 2 rfl) ?_
  refine lv_aload_n hx hb dX11_spell_47 rfl (lv_at hl 0 rfl) ?_
  refine f_11_8 F w (a := 0) rfl tb_122 dX11_spell_48 ?_
  refine f_7_1 F w (a := 141) rfl tb_475 dX11_spell_51 ?_
  refine r_val (v := 2) (st_at) ?_
  refine lv_icmp_ge (tgt := 69) hx hb dX11_spell_54 (by decide) (fun c1 => absurd c1 (by decide)) (fun _ => ?_)
  refine lv_aload_n hx hb dX11_spell_57 rfl (lv_at hl 0 rfl) ?_
  refine f_11_8 F w (a := 0) rfl tb_122 dX11_spell_58 ?_
  refine f_7_0 F w (a := 141) rfl tb_483 dX11_spell_61 ?_
  refine lv_iload_n hx hb dX11_spell_64 rfl (lv_at hl 2 rfl) ?_
  refine g_cald F w (a := 142) rfl (j := 1) ⟨by decide, by decide⟩ (by decide) dX11_spell_65 ?_
  refine r_val (v := 47) ((st_ne (by decide)).trans st_at) ?_
  refine lv_goto (tgt := 70) hx hb dX11_spell_66 (by decide) ?_
  exact e_i F w hr hlocks ⟨rfl, rfl⟩ dX11_spell_70
set_option maxRecDepth 4000 in
theorem c_X12_spell_320 {l : Launch} {D : va_G} {B : Nat} {cy : Nat → ClassId} {M : Mem} (h0 : M.1 146 5 = 0) (h1 : M.1 147 0 = 0) (h2 : M.1 148 0 = 0) (h3 : M.1 147 1 = 0) (h4 : M.1 148 1 = 0) (h5 : M.1 147 2 = 0) (h6 : M.1 148 2 = 0) (h7 : M.1 147 3 = 0) (h8 : M.1 148 3 = 0) (h9 : M.1 147 4 = 0) (h10 : M.1 148 4 = 0) (h11 : M.1 147 5 = 0) (h12 : M.1 148 5 = 0) (h13 : M.1 147 6 = 0) (h14 : M.1 148 6 = 0) (h15 : M.1 147 7 = 0) (h16 : M.1 148 7 = 0) (h17 : M.1 147 8 = 0) (h18 : M.1 148 8 = 0) (h19 : M.1 147 9 = 0) (h20 : M.1 148 9 = 0) (h21 : M.1 147 10 = 0) (h22 : M.1 148 10 = 0) (h23 : M.1 147 11 = 0) (h24 : M.1 148 11 = 0) (h25 : M.1 147 12 = 0) (h26 : M.1 148 12 = 0) (h27 : M.1 147 13 = 0) (h28 : M.1 148 13 = 0) (h29 : M.1 147 14 = 0) (h30 : M.1 148 14 = 0) (h31 : M.1 147 15 = 0) (h32 : M.1 148 15 = 0) (h33 : M.1 147 16 = 0) (h34 : M.1 148 16 = 0) (h35 : M.1 147 17 = 0) (h36 : M.1 148 17 = 0) (h37 : M.1 147 18 = 0) (h38 : M.1 148 18 = 0) (h39 : M.1 147 19 = 0) (h40 : M.1 148 19 = 0) (h41 : M.1 147 20 = 0) (h42 : M.1 148 20 = 0) (h43 : M.1 147 21 = 0) (h44 : M.1 148 21 = 0) (h45 : M.1 147 22 = 0) (h46 : M.1 148 22 = 0) (h47 : M.1 147 23 = 0) (h48 : M.1 148 23 = 0) (h49 : M.1 147 24 = 0) (h50 : M.1 148 24 = 0) (h51 : M.1 147 25 = 0) (h52 : M.1 148 25 = 0) (h53 : M.1 147 26 = 0) (h54 : M.1 148 26 = 0) (h55 : M.1 147 27 = 0) (h56 : M.1 148 27 = 0) (h57 : M.1 146 22 = 0) (h58 : M.1 156 0 = 0) (h59 : M.1 156 1 = 0) : Ci l D B cy yX12_spell cX12_spell 3 (some .int) 3 66 [.ref (B + 146), .int 0, .int 1] M (fun r M1 => r = 47 ∧ M1 = (st (st (st (st M 156 0 47) 146 22 1) 156 1 47) 146 22 2)) := by
  refine s_any (by decide) (Nat.le_of_ble_eq_true rfl) ?_
  intro p e s m below meth c ls F hr hlocks w hl
  have F : CallFix p m c cX12_spell 3 s _ TB RX12 := F
  have hx := F.1
  have hb := F.2.1
  have hl : lv_has ls 3 [(0, .ref (B + 146)), (1, .int 0), (2, .int 1)] := hl
  refine lv_aload_n hx hb dX12_spell_0 rfl (lv_at hl 0 rfl) ?_
  refine lv_iload_n hx hb dX12_spell_1 rfl (lv_at hl 1 rfl) ?_
  refine x_Vi F w (As := [.int 0]) (rest := []) (a := 146) (by decide) (sh_12 rfl _ _) rfl (c_X12_lays_224 (h0) (h1) (h2) (h3) (h4) (h5) (h6) (h7) (h8) (h9) (h10) (h11) (h12) (h13) (h14) (h15) (h16) (h17) (h18) (h19) (h20) (h21) (h22) (h23) (h24) (h25) (h26) (h27) (h28) (h29) (h30) (h31) (h32) (h33) (h34) (h35) (h36) (h37) (h38) (h39) (h40) (h41) (h42) (h43) (h44) (h45) (h46) (h47) (h48) (h49) (h50) (h51) (h52) (h53) (h54) (h55) (h56)) gv_X12_261 hv_X12_lays ⟨Nat.le_of_ble_eq_true rfl, Nat.le_of_ble_eq_true rfl⟩ hl.1 rfl (Nat.le_of_ble_eq_true rfl) ⟨Nat.zero_le _, Nat.zero_le _⟩ dX12_spell_2 (fun H locs w => ?_)
  refine lv_if_eq (tgt := 13) hx hb dX12_spell_5 (by decide) (fun c1 => absurd c1 (by decide)) (fun _ => ?_)
  refine lv_iload_n hx hb dX12_spell_8 rfl (lv_at hl 2 rfl) ?_
  refine lv_iconst (v := (-1)) hx hb dX12_spell_9 (by decide) ?_
  refine lv_icmp_ge (tgt := 15) hx hb dX12_spell_10 (by decide) (fun _ => ?_) (fun c1 => absurd c1 (by decide))
  refine lv_aload_n hx hb dX12_spell_15 rfl (lv_at hl 0 rfl) ?_
  refine x_Vv F w (As := []) (rest := []) (a := 146) (by decide) (sh_12 rfl _ _) rfl (c_X12_writesWord_315 (h57) (h2) (h58) (h52) (h59)) gv_X12_300 hv_X12_writesWord ⟨Nat.le_of_ble_eq_true rfl, Nat.le_of_ble_eq_true rfl⟩ hl.1 rfl (Nat.le_of_ble_eq_true rfl) ⟨Nat.zero_le _, Nat.zero_le _⟩ dX12_spell_16 (fun H locs w => ?_)
  refine lv_iload_n hx hb dX12_spell_19 rfl (lv_at hl 2 rfl) ?_
  refine lv_iconst (v := (-1)) hx hb dX12_spell_20 (by decide) ?_
  refine lv_icmp_ne (tgt := 31) hx hb dX12_spell_21 (by decide) (fun _ => ?_) (fun c1 => absurd c1 (by decide))
  refine lv_iload_n hx hb dX12_spell_31 rfl (lv_at hl 2 rfl) ?_
  refine lv_aload_n hx hb dX12_spell_32 rfl (lv_at hl 0 rfl) ?_
  refine f_12_22 F w (a := 146) rfl tb_476 dX12_spell_33 ?_
  refine r_val (v := 2) (st_at) ?_
  refine lv_icmp_ge (tgt := 48) hx hb dX12_spell_36 (by decide) (fun c1 => absurd c1 (by decide)) (fun _ => ?_)
  refine lv_aload_n hx hb dX12_spell_39 rfl (lv_at hl 0 rfl) ?_
  refine f_12_21 F w (a := 146) rfl tb_135 dX12_spell_40 ?_
  refine lv_iload_n hx hb dX12_spell_43 rfl (lv_at hl 2 rfl) ?_
  refine g_iald F w (a := 156) rfl (j := 1) ⟨by decide, by decide⟩ (by decide) dX12_spell_44 ?_
  refine r_val (v := 47) ((st_ne (by decide)).trans st_at) ?_
  refine lv_goto (tgt := 49) hx hb dX12_spell_45 (by decide) ?_
  exact e_i F w hr hlocks ⟨rfl, rfl⟩ dX12_spell_49
set_option maxRecDepth 8000 in
theorem la_20_76 {p : Program} {l : Launch} {e : Env} {s : State} {m : MethodId} {below : List Frame} {meth : Method} {c : Code} {D : va_G} {B b : Nat} {cy : Nat → ClassId} {H : Heap} {locs : List Loc} {ls : Array Slot} {xs : Nat → Int32} {Q : State → Prop} (F : CallFix p m c code 4 s #[Value.ref b] TB RL) (hX : va_X b 6 xs s s.heap) (hbl : b < s.heap.size) (hbA : ¬ B ≤ b) (w : Wd D B cy s s.heap M0 H locs) (hl : lv_has ls 4 [(3, .int 0), (2, .ref (B + 146)), (1, .ref (B + 0)), (0, .ref b)]) (x1 : xs 1 = 0) (x2 : xs 2 = 1) (kk : ∀ (M1 : Mem) (H1 : Heap) (locs1 : List Loc), Wd D B cy s s.heap M1 H1 locs1 → W p l e room_1 s m #[Value.ref b] below meth c H1 locs1 159 13107 Q (F0 m 1065 ls [])) : W p l e room_1 s m #[Value.ref b] below meth c H locs 159 13107 Q (F0 m 838 ls []) := by
  have hx := F.1
  have hb := F.2.1
  refine lv_aload_n hx hb dL_law_838 rfl (lv_at hl 2 rfl) ?_
  refine lv_aload_n hx hb dL_law_839 rfl (lv_at hl 3 rfl) ?_
  refine lv_iload_n hx hb dL_law_840 rfl (lv_at hl 0 rfl) ?_
  refine lv_iconst (v := 1) hx hb dL_law_841 (by decide) ?_
  refine lv_iadd hx hb dL_law_842 ?_
  refine r_val (v := 1) (by decide) ?_
  refine va_sld hx hb hX hbl hbA w.2.2.1 (vpi (by decide) (by decide)) dL_law_843 ?_
  refine r_val (v := 0) ((congrArg xs (show (1 : Int32).toNatClampNeg = 1 by decide)).trans x1) ?_
  refine lv_aload_n hx hb dL_law_844 rfl (lv_at hl 3 rfl) ?_
  refine lv_iload_n hx hb dL_law_845 rfl (lv_at hl 0 rfl) ?_
  refine lv_iconst (v := 2) hx hb dL_law_846 (by decide) ?_
  refine lv_iadd hx hb dL_law_847 ?_
  refine r_val (v := 2) (by decide) ?_
  refine va_sld hx hb hX hbl hbA w.2.2.1 (vpi (by decide) (by decide)) dL_law_848 ?_
  refine r_val (v := 1) ((congrArg xs (show (2 : Int32).toNatClampNeg = 2 by decide)).trans x2) ?_
  refine x_Vi F w (As := [.int 0, .int 1]) (rest := []) (a := 0) (by decide) (sh_11 rfl _ _) rfl (c_X11_spell_319 (rfl) (rfl) (rfl) (rfl) (rfl) (rfl) (rfl)) gv_L_103 hv_X11_spell ⟨Nat.le_of_ble_eq_true rfl, Nat.le_of_ble_eq_true rfl⟩ hl.1 rfl (Nat.le_of_ble_eq_true rfl) ⟨Nat.le_of_ble_eq_true rfl, Nat.le_of_ble_eq_true rfl⟩ dL_law_849 (fun H locs w => ?_)
  refine lv_aload_n hx hb dL_law_852 rfl (lv_at hl 1 rfl) ?_
  refine lv_aload_n hx hb dL_law_853 rfl (lv_at hl 3 rfl) ?_
  refine lv_iload_n hx hb dL_law_854 rfl (lv_at hl 0 rfl) ?_
  refine lv_iconst (v := 1) hx hb dL_law_855 (by decide) ?_
  refine lv_iadd hx hb dL_law_856 ?_
  refine r_val (v := 1) (by decide) ?_
  refine va_sld hx hb hX hbl hbA w.2.2.1 (vpi (by decide) (by decide)) dL_law_857 ?_
  refine r_val (v := 0) ((congrArg xs (show (1 : Int32).toNatClampNeg = 1 by decide)).trans x1) ?_
  refine lv_aload_n hx hb dL_law_858 rfl (lv_at hl 3 rfl) ?_
  refine lv_iload_n hx hb dL_law_859 rfl (lv_at hl 0 rfl) ?_
  refine lv_iconst (v := 2) hx hb dL_law_860 (by decide) ?_
  refine lv_iadd hx hb dL_law_861 ?_
  refine r_val (v := 2) (by decide) ?_
  refine va_sld hx hb hX hbl hbA w.2.2.1 (vpi (by decide) (by decide)) dL_law_862 ?_
  refine r_val (v := 1) ((congrArg xs (show (2 : Int32).toNatClampNeg = 2 by decide)).trans x2) ?_
  refine x_Vi F w (As := [.int 0, .int 1]) (rest := [.int 47]) (a := 146) (by decide) (sh_12 rfl _ _) rfl (c_X12_spell_320 ((st_ne (by decide)).trans ((st_ne (by decide)).trans ((st_ne (by decide)).trans ((st_ne (by decide)).trans rfl)))) ((st_ne (by decide)).trans ((st_ne (by decide)).trans ((st_ne (by decide)).trans ((st_ne (by decide)).trans rfl)))) ((st_ne (by decide)).trans ((st_ne (by decide)).trans ((st_ne (by decide)).trans ((st_ne (by decide)).trans rfl)))) ((st_ne (by decide)).trans ((st_ne (by decide)).trans ((st_ne (by decide)).trans ((st_ne (by decide)).trans rfl)))) ((st_ne (by decide)).trans ((st_ne (by decide)).trans ((st_ne (by decide)).trans ((st_ne (by decide)).trans rfl)))) ((st_ne (by decide)).trans ((st_ne (by decide)).trans ((st_ne (by decide)).trans ((st_ne (by decide)).trans rfl)))) ((st_ne (by decide)).trans ((st_ne (by decide)).trans ((st_ne (by decide)).trans ((st_ne (by decide)).trans rfl)))) ((st_ne (by decide)).trans ((st_ne (by decide)).trans ((st_ne (by decide)).trans ((st_ne (by decide)).trans rfl)))) ((st_ne (by decide)).trans ((st_ne (by decide)).trans ((st_ne (by decide)).trans ((st_ne (by decide)).trans rfl)))) ((st_ne (by decide)).trans ((st_ne (by decide)).trans ((st_ne (by decide)).trans ((st_ne (by decide)).trans rfl)))) ((st_ne (by decide)).trans ((st_ne (by decide)).trans ((st_ne (by decide)).trans ((st_ne (by decide)).trans rfl)))) ((st_ne (by decide)).trans ((st_ne (by decide)).trans ((st_ne (by decide)).trans ((st_ne (by decide)).trans rfl)))) ((st_ne (by decide)).trans ((st_ne (by decide)).trans ((st_ne (by decide)).trans ((st_ne (by decide)).trans rfl)))) ((st_ne (by decide)).trans ((st_ne (by decide)).trans ((st_ne (by decide)).trans ((st_ne (by decide)).trans rfl)))) ((st_ne (by decide)).trans ((st_ne (by decide)).trans ((st_ne (by decide)).trans ((st_ne (by decide)).trans rfl)))) ((st_ne (by decide)).trans ((st_ne (by decide)).trans ((st_ne (by decide)).trans ((st_ne (by decide)).trans rfl)))) ((st_ne (by decide)).trans ((st_ne (by decide)).trans ((st_ne (by decide)).trans ((st_ne (by decide)).trans rfl)))) ((st_ne (by decide)).trans ((st_ne (by decide)).trans ((st_ne (by decide)).trans ((st_ne (by decide)).trans rfl)))) ((st_ne (by decide)).trans ((st_ne (by decide)).trans ((st_ne (by decide)).trans ((st_ne (by decide)).trans rfl)))) ((st_ne (by decide)).trans ((st_ne (by decide)).trans ((st_ne (by decide)).trans ((st_ne (by decide)).trans rfl)))) ((st_ne (by decide)).trans ((st_ne (by decide)).trans ((st_ne (by decide)).trans ((st_ne (by decide)).trans rfl)))) ((st_ne (by decide)).trans ((st_ne (by decide)).trans ((st_ne (by decide)).trans ((st_ne (by decide)).trans rfl)))) ((st_ne (by decide)).trans ((st_ne (by decide)).trans ((st_ne (by decide)).trans ((st_ne (by decide)).trans rfl)))) ((st_ne (by decide)).trans ((st_ne (by decide)).trans ((st_ne (by decide)).trans ((st_ne (by decide)).trans rfl)))) ((st_ne (by decide)).trans ((st_ne (by decide)).trans ((st_ne (by decide)).trans ((st_ne (by decide)).trans rfl)))) ((st_ne (by decide)).trans ((st_ne (by decide)).trans ((st_ne (by decide)).trans ((st_ne (by decide)).trans rfl)))) ((st_ne (by decide)).trans ((st_ne (by decide)).trans ((st_ne (by decide)).trans ((st_ne (by decide)).trans rfl)))) ((st_ne (by decide)).trans ((st_ne (by decide)).trans ((st_ne (by decide)).trans ((st_ne (by decide)).trans rfl)))) ((st_ne (by decide)).trans ((st_ne (by decide)).trans ((st_ne (by decide)).trans ((st_ne (by decide)).trans rfl)))) ((st_ne (by decide)).trans ((st_ne (by decide)).trans ((st_ne (by decide)).trans ((st_ne (by decide)).trans rfl)))) ((st_ne (by decide)).trans ((st_ne (by decide)).trans ((st_ne (by decide)).trans ((st_ne (by decide)).trans rfl)))) ((st_ne (by decide)).trans ((st_ne (by decide)).trans ((st_ne (by decide)).trans ((st_ne (by decide)).trans rfl)))) ((st_ne (by decide)).trans ((st_ne (by decide)).trans ((st_ne (by decide)).trans ((st_ne (by decide)).trans rfl)))) ((st_ne (by decide)).trans ((st_ne (by decide)).trans ((st_ne (by decide)).trans ((st_ne (by decide)).trans rfl)))) ((st_ne (by decide)).trans ((st_ne (by decide)).trans ((st_ne (by decide)).trans ((st_ne (by decide)).trans rfl)))) ((st_ne (by decide)).trans ((st_ne (by decide)).trans ((st_ne (by decide)).trans ((st_ne (by decide)).trans rfl)))) ((st_ne (by decide)).trans ((st_ne (by decide)).trans ((st_ne (by decide)).trans ((st_ne (by decide)).trans rfl)))) ((st_ne (by decide)).trans ((st_ne (by decide)).trans ((st_ne (by decide)).trans ((st_ne (by decide)).trans rfl)))) ((st_ne (by decide)).trans ((st_ne (by decide)).trans ((st_ne (by decide)).trans ((st_ne (by decide)).trans rfl)))) ((st_ne (by decide)).trans ((st_ne (by decide)).trans ((st_ne (by decide)).trans ((st_ne (by decide)).trans rfl)))) ((st_ne (by decide)).trans ((st_ne (by decide)).trans ((st_ne (by decide)).trans ((st_ne (by decide)).trans rfl)))) ((st_ne (by decide)).trans ((st_ne (by decide)).trans ((st_ne (by decide)).trans ((st_ne (by decide)).trans rfl)))) ((st_ne (by decide)).trans ((st_ne (by decide)).trans ((st_ne (by decide)).trans ((st_ne (by decide)).trans rfl)))) ((st_ne (by decide)).trans ((st_ne (by decide)).trans ((st_ne (by decide)).trans ((st_ne (by decide)).trans rfl)))) ((st_ne (by decide)).trans ((st_ne (by decide)).trans ((st_ne (by decide)).trans ((st_ne (by decide)).trans rfl)))) ((st_ne (by decide)).trans ((st_ne (by decide)).trans ((st_ne (by decide)).trans ((st_ne (by decide)).trans rfl)))) ((st_ne (by decide)).trans ((st_ne (by decide)).trans ((st_ne (by decide)).trans ((st_ne (by decide)).trans rfl)))) ((st_ne (by decide)).trans ((st_ne (by decide)).trans ((st_ne (by decide)).trans ((st_ne (by decide)).trans rfl)))) ((st_ne (by decide)).trans ((st_ne (by decide)).trans ((st_ne (by decide)).trans ((st_ne (by decide)).trans rfl)))) ((st_ne (by decide)).trans ((st_ne (by decide)).trans ((st_ne (by decide)).trans ((st_ne (by decide)).trans rfl)))) ((st_ne (by decide)).trans ((st_ne (by decide)).trans ((st_ne (by decide)).trans ((st_ne (by decide)).trans rfl)))) ((st_ne (by decide)).trans ((st_ne (by decide)).trans ((st_ne (by decide)).trans ((st_ne (by decide)).trans rfl)))) ((st_ne (by decide)).trans ((st_ne (by decide)).trans ((st_ne (by decide)).trans ((st_ne (by decide)).trans rfl)))) ((st_ne (by decide)).trans ((st_ne (by decide)).trans ((st_ne (by decide)).trans ((st_ne (by decide)).trans rfl)))) ((st_ne (by decide)).trans ((st_ne (by decide)).trans ((st_ne (by decide)).trans ((st_ne (by decide)).trans rfl)))) ((st_ne (by decide)).trans ((st_ne (by decide)).trans ((st_ne (by decide)).trans ((st_ne (by decide)).trans rfl)))) ((st_ne (by decide)).trans ((st_ne (by decide)).trans ((st_ne (by decide)).trans ((st_ne (by decide)).trans rfl)))) ((st_ne (by decide)).trans ((st_ne (by decide)).trans ((st_ne (by decide)).trans ((st_ne (by decide)).trans rfl)))) ((st_ne (by decide)).trans ((st_ne (by decide)).trans ((st_ne (by decide)).trans ((st_ne (by decide)).trans rfl)))) ((st_ne (by decide)).trans ((st_ne (by decide)).trans ((st_ne (by decide)).trans ((st_ne (by decide)).trans rfl))))) gv_L_106 hv_X12_spell ⟨Nat.le_of_ble_eq_true rfl, Nat.le_of_ble_eq_true rfl⟩ hl.1 rfl (Nat.le_of_ble_eq_true rfl) ⟨Nat.le_of_ble_eq_true rfl, Nat.le_of_ble_eq_true rfl⟩ dL_law_863 (fun H locs w => ?_)
  refine lv_icmp_eq (tgt := 1065) hx hb dL_law_866 (by decide) (fun _ => ?_) (fun c1 => absurd c1 (by decide))
  exact kk _ _ _ w
theorem dX11_spell_69 : decode cX11_spell 69 = .ok (.iconst (-1), 1) := by decide +kernel
set_option maxRecDepth 4000 in
theorem c_X11_spell_321 {l : Launch} {D : va_G} {B : Nat} {cy : Nat → ClassId} {M : Mem} {p2 : Int32} (h0 : M.1 22 2 = 0) (h1 : (-1) ≤ p2) (h2 : M.1 22 7 = 0) (h3 : M.1 141 1 = 0) (h4 : M.1 44 0 = 0) (h5 : M.1 142 0 = 0) (h6 : M.1 44 1 = 0) (h7 : M.1 142 1 = 0) (h8 : ¬ p2 = (-1)) (h9 : 2 ≤ p2) : Ci l D B cy yX11_spell cX11_spell 3 (some .int) 2 47 [.ref (B + 0), .int 0, .int p2] M (fun r M1 => r = (-1) ∧ M1 = (st (st (st (st M 142 0 47) 141 1 1) 142 1 47) 141 1 2)) := by
  refine s_any (by decide) (Nat.le_of_ble_eq_true rfl) ?_
  intro p e s m below meth c ls F hr hlocks w hl
  have F : CallFix p m c cX11_spell 3 s _ TB RX11 := F
  have hx := F.1
  have hb := F.2.1
  have hl : lv_has ls 3 [(0, .ref (B + 0)), (1, .int 0), (2, .int p2)] := hl
  refine lv_aload_n hx hb dX11_spell_0 rfl (lv_at hl 0 rfl) ?_
  refine f_11_3 F w (a := 0) rfl tb_73 dX11_spell_1 ?_
  refine lv_iload_n hx hb dX11_spell_4 rfl (lv_at hl 1 rfl) ?_
  refine x_Vi F w (As := [.int 0]) (rest := []) (a := 22) (by decide) (sh_0 rfl _ _) rfl (c_X0_covers_206 (h0)) gv_X11_193 hv_X0_covers ⟨Nat.le_of_ble_eq_true rfl, Nat.le_of_ble_eq_true rfl⟩ hl.1 rfl (Nat.le_of_ble_eq_true rfl) ⟨Nat.zero_le _, Nat.zero_le _⟩ dX11_spell_5 (fun H locs w => ?_)
  refine lv_if_eq (tgt := 16) hx hb dX11_spell_8 (by decide) (fun c1 => absurd c1 (by decide)) (fun _ => ?_)
  refine lv_iload_n hx hb dX11_spell_11 rfl (lv_at hl 2 rfl) ?_
  refine lv_iconst (v := (-1)) hx hb dX11_spell_12 (by decide) ?_
  refine lv_icmp_ge (tgt := 18) hx hb dX11_spell_13 (by decide) (fun _ => ?_) (fun c1 => absurd h1 c1)
  refine lv_aload_n hx hb dX11_spell_18 rfl (lv_at hl 0 rfl) ?_
  refine f_11_8 F w (a := 0) rfl tb_122 dX11_spell_19 ?_
  refine lv_aload_n hx hb dX11_spell_22 rfl (lv_at hl 0 rfl) ?_
  refine f_11_3 F w (a := 0) rfl tb_73 dX11_spell_23 ?_
  refine lv_iload_n hx hb dX11_spell_26 rfl (lv_at hl 1 rfl) ?_
  refine x_Vr F w (As := [.int 0]) (rest := [.ref (B + 141)]) (a := 22) (by decide) (sh_0 rfl _ _) rfl (c_X0_stageOf_207 (h0) (h2)) gv_X11_196 hv_X0_stageOf ⟨Nat.le_of_ble_eq_true rfl, Nat.le_of_ble_eq_true rfl⟩ hl.1 rfl (Nat.le_of_ble_eq_true rfl) ⟨Nat.zero_le _, Nat.zero_le _⟩ dX11_spell_27 (fun H locs w => ?_)
  refine x_Vv F w (As := [.ref (B + 44)]) (rest := []) (a := 141) (by decide) (sh_7 rfl _ _) rfl (c_X7_write_311 (h3) (h4) (h5) (h6) (h7)) gv_X11_245 hv_X7_write ⟨Nat.le_of_ble_eq_true rfl, Nat.le_of_ble_eq_true rfl⟩ hl.1 rfl (Nat.le_of_ble_eq_true rfl) ⟨Nat.zero_le _, Nat.zero_le _⟩ dX11_spell_30 (fun H locs w => ?_)
  refine lv_iload_n hx hb dX11_spell_33 rfl (lv_at hl 2 rfl) ?_
  refine lv_iconst (v := (-1)) hx hb dX11_spell_34 (by decide) ?_
  refine lv_icmp_ne (tgt := 46) hx hb dX11_spell_35 (by decide) (fun _ => ?_) (fun c1 => absurd c1 h8)
  refine lv_iload_n hx hb dX11_spell_46 rfl (lv_at hl 2 rfl) ?_
  refine lv_aload_n hx hb dX11_spell_47 rfl (lv_at hl 0 rfl) ?_
  refine f_11_8 F w (a := 0) rfl tb_122 dX11_spell_48 ?_
  refine f_7_1 F w (a := 141) rfl tb_475 dX11_spell_51 ?_
  refine r_val (v := 2) (st_at) ?_
  refine lv_icmp_ge (tgt := 69) hx hb dX11_spell_54 (by decide) (fun _ => ?_) (fun c1 => absurd h9 c1)
  refine lv_iconst (v := (-1)) hx hb dX11_spell_69 (by decide) ?_
  exact e_i F w hr hlocks ⟨rfl, rfl⟩ dX11_spell_70
theorem dX12_spell_48 : decode cX12_spell 48 = .ok (.iconst (-1), 1) := by decide +kernel
set_option maxRecDepth 4000 in
theorem c_X12_spell_322 {l : Launch} {D : va_G} {B : Nat} {cy : Nat → ClassId} {M : Mem} {p2 : Int32} (h0 : M.1 146 5 = 0) (h1 : M.1 147 0 = 0) (h2 : M.1 148 0 = 0) (h3 : M.1 147 1 = 0) (h4 : M.1 148 1 = 0) (h5 : M.1 147 2 = 0) (h6 : M.1 148 2 = 0) (h7 : M.1 147 3 = 0) (h8 : M.1 148 3 = 0) (h9 : M.1 147 4 = 0) (h10 : M.1 148 4 = 0) (h11 : M.1 147 5 = 0) (h12 : M.1 148 5 = 0) (h13 : M.1 147 6 = 0) (h14 : M.1 148 6 = 0) (h15 : M.1 147 7 = 0) (h16 : M.1 148 7 = 0) (h17 : M.1 147 8 = 0) (h18 : M.1 148 8 = 0) (h19 : M.1 147 9 = 0) (h20 : M.1 148 9 = 0) (h21 : M.1 147 10 = 0) (h22 : M.1 148 10 = 0) (h23 : M.1 147 11 = 0) (h24 : M.1 148 11 = 0) (h25 : M.1 147 12 = 0) (h26 : M.1 148 12 = 0) (h27 : M.1 147 13 = 0) (h28 : M.1 148 13 = 0) (h29 : M.1 147 14 = 0) (h30 : M.1 148 14 = 0) (h31 : M.1 147 15 = 0) (h32 : M.1 148 15 = 0) (h33 : M.1 147 16 = 0) (h34 : M.1 148 16 = 0) (h35 : M.1 147 17 = 0) (h36 : M.1 148 17 = 0) (h37 : M.1 147 18 = 0) (h38 : M.1 148 18 = 0) (h39 : M.1 147 19 = 0) (h40 : M.1 148 19 = 0) (h41 : M.1 147 20 = 0) (h42 : M.1 148 20 = 0) (h43 : M.1 147 21 = 0) (h44 : M.1 148 21 = 0) (h45 : M.1 147 22 = 0) (h46 : M.1 148 22 = 0) (h47 : M.1 147 23 = 0) (h48 : M.1 148 23 = 0) (h49 : M.1 147 24 = 0) (h50 : M.1 148 24 = 0) (h51 : M.1 147 25 = 0) (h52 : M.1 148 25 = 0) (h53 : M.1 147 26 = 0) (h54 : M.1 148 26 = 0) (h55 : M.1 147 27 = 0) (h56 : M.1 148 27 = 0) (h57 : (-1) ≤ p2) (h58 : M.1 146 22 = 0) (h59 : M.1 156 0 = 0) (h60 : M.1 156 1 = 0) (h61 : ¬ p2 = (-1)) (h62 : 2 ≤ p2) : Ci l D B cy yX12_spell cX12_spell 3 (some .int) 3 66 [.ref (B + 146), .int 0, .int p2] M (fun r M1 => r = (-1) ∧ M1 = (st (st (st (st M 156 0 47) 146 22 1) 156 1 47) 146 22 2)) := by
  refine s_any (by decide) (Nat.le_of_ble_eq_true rfl) ?_
  intro p e s m below meth c ls F hr hlocks w hl
  have F : CallFix p m c cX12_spell 3 s _ TB RX12 := F
  have hx := F.1
  have hb := F.2.1
  have hl : lv_has ls 3 [(0, .ref (B + 146)), (1, .int 0), (2, .int p2)] := hl
  refine lv_aload_n hx hb dX12_spell_0 rfl (lv_at hl 0 rfl) ?_
  refine lv_iload_n hx hb dX12_spell_1 rfl (lv_at hl 1 rfl) ?_
  refine x_Vi F w (As := [.int 0]) (rest := []) (a := 146) (by decide) (sh_12 rfl _ _) rfl (c_X12_lays_224 (h0) (h1) (h2) (h3) (h4) (h5) (h6) (h7) (h8) (h9) (h10) (h11) (h12) (h13) (h14) (h15) (h16) (h17) (h18) (h19) (h20) (h21) (h22) (h23) (h24) (h25) (h26) (h27) (h28) (h29) (h30) (h31) (h32) (h33) (h34) (h35) (h36) (h37) (h38) (h39) (h40) (h41) (h42) (h43) (h44) (h45) (h46) (h47) (h48) (h49) (h50) (h51) (h52) (h53) (h54) (h55) (h56)) gv_X12_261 hv_X12_lays ⟨Nat.le_of_ble_eq_true rfl, Nat.le_of_ble_eq_true rfl⟩ hl.1 rfl (Nat.le_of_ble_eq_true rfl) ⟨Nat.zero_le _, Nat.zero_le _⟩ dX12_spell_2 (fun H locs w => ?_)
  refine lv_if_eq (tgt := 13) hx hb dX12_spell_5 (by decide) (fun c1 => absurd c1 (by decide)) (fun _ => ?_)
  refine lv_iload_n hx hb dX12_spell_8 rfl (lv_at hl 2 rfl) ?_
  refine lv_iconst (v := (-1)) hx hb dX12_spell_9 (by decide) ?_
  refine lv_icmp_ge (tgt := 15) hx hb dX12_spell_10 (by decide) (fun _ => ?_) (fun c1 => absurd h57 c1)
  refine lv_aload_n hx hb dX12_spell_15 rfl (lv_at hl 0 rfl) ?_
  refine x_Vv F w (As := []) (rest := []) (a := 146) (by decide) (sh_12 rfl _ _) rfl (c_X12_writesWord_315 (h58) (h2) (h59) (h52) (h60)) gv_X12_300 hv_X12_writesWord ⟨Nat.le_of_ble_eq_true rfl, Nat.le_of_ble_eq_true rfl⟩ hl.1 rfl (Nat.le_of_ble_eq_true rfl) ⟨Nat.zero_le _, Nat.zero_le _⟩ dX12_spell_16 (fun H locs w => ?_)
  refine lv_iload_n hx hb dX12_spell_19 rfl (lv_at hl 2 rfl) ?_
  refine lv_iconst (v := (-1)) hx hb dX12_spell_20 (by decide) ?_
  refine lv_icmp_ne (tgt := 31) hx hb dX12_spell_21 (by decide) (fun _ => ?_) (fun c1 => absurd c1 h61)
  refine lv_iload_n hx hb dX12_spell_31 rfl (lv_at hl 2 rfl) ?_
  refine lv_aload_n hx hb dX12_spell_32 rfl (lv_at hl 0 rfl) ?_
  refine f_12_22 F w (a := 146) rfl tb_476 dX12_spell_33 ?_
  refine r_val (v := 2) (st_at) ?_
  refine lv_icmp_ge (tgt := 48) hx hb dX12_spell_36 (by decide) (fun _ => ?_) (fun c1 => absurd h62 c1)
  refine lv_iconst (v := (-1)) hx hb dX12_spell_48 (by decide) ?_
  exact e_i F w hr hlocks ⟨rfl, rfl⟩ dX12_spell_49
set_option maxRecDepth 8000 in
theorem la_20_77 {p : Program} {l : Launch} {e : Env} {s : State} {m : MethodId} {below : List Frame} {meth : Method} {c : Code} {D : va_G} {B b : Nat} {cy : Nat → ClassId} {H : Heap} {locs : List Loc} {ls : Array Slot} {xs : Nat → Int32} {Q : State → Prop} (F : CallFix p m c code 4 s #[Value.ref b] TB RL) (hX : va_X b 6 xs s s.heap) (hbl : b < s.heap.size) (hbA : ¬ B ≤ b) (w : Wd D B cy s s.heap M0 H locs) (hl : lv_has ls 4 [(3, .int 0), (2, .ref (B + 146)), (1, .ref (B + 0)), (0, .ref b)]) (x1 : xs 1 = 0) (h0 : (-1) ≤ (xs 2)) (h1 : ¬ (xs 2) = (-1)) (h2 : 2 ≤ (xs 2)) (kk : ∀ (M1 : Mem) (H1 : Heap) (locs1 : List Loc), Wd D B cy s s.heap M1 H1 locs1 → W p l e room_1 s m #[Value.ref b] below meth c H1 locs1 159 13107 Q (F0 m 1065 ls [])) : W p l e room_1 s m #[Value.ref b] below meth c H locs 159 13107 Q (F0 m 838 ls []) := by
  have hx := F.1
  have hb := F.2.1
  refine lv_aload_n hx hb dL_law_838 rfl (lv_at hl 2 rfl) ?_
  refine lv_aload_n hx hb dL_law_839 rfl (lv_at hl 3 rfl) ?_
  refine lv_iload_n hx hb dL_law_840 rfl (lv_at hl 0 rfl) ?_
  refine lv_iconst (v := 1) hx hb dL_law_841 (by decide) ?_
  refine lv_iadd hx hb dL_law_842 ?_
  refine r_val (v := 1) (by decide) ?_
  refine va_sld hx hb hX hbl hbA w.2.2.1 (vpi (by decide) (by decide)) dL_law_843 ?_
  refine r_val (v := 0) ((congrArg xs (show (1 : Int32).toNatClampNeg = 1 by decide)).trans x1) ?_
  refine lv_aload_n hx hb dL_law_844 rfl (lv_at hl 3 rfl) ?_
  refine lv_iload_n hx hb dL_law_845 rfl (lv_at hl 0 rfl) ?_
  refine lv_iconst (v := 2) hx hb dL_law_846 (by decide) ?_
  refine lv_iadd hx hb dL_law_847 ?_
  refine r_val (v := 2) (by decide) ?_
  refine va_sld hx hb hX hbl hbA w.2.2.1 (vpi (by decide) (by decide)) dL_law_848 ?_
  refine r_val (v := xs 2) (congrArg xs (show (2 : Int32).toNatClampNeg = 2 by decide)) ?_
  refine x_Vi F w (As := [.int 0, .int (xs 2)]) (rest := []) (a := 0) (by decide) (sh_11 rfl _ _) rfl (c_X11_spell_321 (rfl) h0 (rfl) (rfl) (rfl) (rfl) (rfl) (rfl) h1 h2) gv_L_103 hv_X11_spell ⟨Nat.le_of_ble_eq_true rfl, Nat.le_of_ble_eq_true rfl⟩ hl.1 rfl (Nat.le_of_ble_eq_true rfl) ⟨Nat.le_of_ble_eq_true rfl, Nat.le_of_ble_eq_true rfl⟩ dL_law_849 (fun H locs w => ?_)
  refine lv_aload_n hx hb dL_law_852 rfl (lv_at hl 1 rfl) ?_
  refine lv_aload_n hx hb dL_law_853 rfl (lv_at hl 3 rfl) ?_
  refine lv_iload_n hx hb dL_law_854 rfl (lv_at hl 0 rfl) ?_
  refine lv_iconst (v := 1) hx hb dL_law_855 (by decide) ?_
  refine lv_iadd hx hb dL_law_856 ?_
  refine r_val (v := 1) (by decide) ?_
  refine va_sld hx hb hX hbl hbA w.2.2.1 (vpi (by decide) (by decide)) dL_law_857 ?_
  refine r_val (v := 0) ((congrArg xs (show (1 : Int32).toNatClampNeg = 1 by decide)).trans x1) ?_
  refine lv_aload_n hx hb dL_law_858 rfl (lv_at hl 3 rfl) ?_
  refine lv_iload_n hx hb dL_law_859 rfl (lv_at hl 0 rfl) ?_
  refine lv_iconst (v := 2) hx hb dL_law_860 (by decide) ?_
  refine lv_iadd hx hb dL_law_861 ?_
  refine r_val (v := 2) (by decide) ?_
  refine va_sld hx hb hX hbl hbA w.2.2.1 (vpi (by decide) (by decide)) dL_law_862 ?_
  refine r_val (v := xs 2) (congrArg xs (show (2 : Int32).toNatClampNeg = 2 by decide)) ?_
  refine x_Vi F w (As := [.int 0, .int (xs 2)]) (rest := [.int (-1)]) (a := 146) (by decide) (sh_12 rfl _ _) rfl (c_X12_spell_322 ((st_ne (by decide)).trans ((st_ne (by decide)).trans ((st_ne (by decide)).trans ((st_ne (by decide)).trans rfl)))) ((st_ne (by decide)).trans ((st_ne (by decide)).trans ((st_ne (by decide)).trans ((st_ne (by decide)).trans rfl)))) ((st_ne (by decide)).trans ((st_ne (by decide)).trans ((st_ne (by decide)).trans ((st_ne (by decide)).trans rfl)))) ((st_ne (by decide)).trans ((st_ne (by decide)).trans ((st_ne (by decide)).trans ((st_ne (by decide)).trans rfl)))) ((st_ne (by decide)).trans ((st_ne (by decide)).trans ((st_ne (by decide)).trans ((st_ne (by decide)).trans rfl)))) ((st_ne (by decide)).trans ((st_ne (by decide)).trans ((st_ne (by decide)).trans ((st_ne (by decide)).trans rfl)))) ((st_ne (by decide)).trans ((st_ne (by decide)).trans ((st_ne (by decide)).trans ((st_ne (by decide)).trans rfl)))) ((st_ne (by decide)).trans ((st_ne (by decide)).trans ((st_ne (by decide)).trans ((st_ne (by decide)).trans rfl)))) ((st_ne (by decide)).trans ((st_ne (by decide)).trans ((st_ne (by decide)).trans ((st_ne (by decide)).trans rfl)))) ((st_ne (by decide)).trans ((st_ne (by decide)).trans ((st_ne (by decide)).trans ((st_ne (by decide)).trans rfl)))) ((st_ne (by decide)).trans ((st_ne (by decide)).trans ((st_ne (by decide)).trans ((st_ne (by decide)).trans rfl)))) ((st_ne (by decide)).trans ((st_ne (by decide)).trans ((st_ne (by decide)).trans ((st_ne (by decide)).trans rfl)))) ((st_ne (by decide)).trans ((st_ne (by decide)).trans ((st_ne (by decide)).trans ((st_ne (by decide)).trans rfl)))) ((st_ne (by decide)).trans ((st_ne (by decide)).trans ((st_ne (by decide)).trans ((st_ne (by decide)).trans rfl)))) ((st_ne (by decide)).trans ((st_ne (by decide)).trans ((st_ne (by decide)).trans ((st_ne (by decide)).trans rfl)))) ((st_ne (by decide)).trans ((st_ne (by decide)).trans ((st_ne (by decide)).trans ((st_ne (by decide)).trans rfl)))) ((st_ne (by decide)).trans ((st_ne (by decide)).trans ((st_ne (by decide)).trans ((st_ne (by decide)).trans rfl)))) ((st_ne (by decide)).trans ((st_ne (by decide)).trans ((st_ne (by decide)).trans ((st_ne (by decide)).trans rfl)))) ((st_ne (by decide)).trans ((st_ne (by decide)).trans ((st_ne (by decide)).trans ((st_ne (by decide)).trans rfl)))) ((st_ne (by decide)).trans ((st_ne (by decide)).trans ((st_ne (by decide)).trans ((st_ne (by decide)).trans rfl)))) ((st_ne (by decide)).trans ((st_ne (by decide)).trans ((st_ne (by decide)).trans ((st_ne (by decide)).trans rfl)))) ((st_ne (by decide)).trans ((st_ne (by decide)).trans ((st_ne (by decide)).trans ((st_ne (by decide)).trans rfl)))) ((st_ne (by decide)).trans ((st_ne (by decide)).trans ((st_ne (by decide)).trans ((st_ne (by decide)).trans rfl)))) ((st_ne (by decide)).trans ((st_ne (by decide)).trans ((st_ne (by decide)).trans ((st_ne (by decide)).trans rfl)))) ((st_ne (by decide)).trans ((st_ne (by decide)).trans ((st_ne (by decide)).trans ((st_ne (by decide)).trans rfl)))) ((st_ne (by decide)).trans ((st_ne (by decide)).trans ((st_ne (by decide)).trans ((st_ne (by decide)).trans rfl)))) ((st_ne (by decide)).trans ((st_ne (by decide)).trans ((st_ne (by decide)).trans ((st_ne (by decide)).trans rfl)))) ((st_ne (by decide)).trans ((st_ne (by decide)).trans ((st_ne (by decide)).trans ((st_ne (by decide)).trans rfl)))) ((st_ne (by decide)).trans ((st_ne (by decide)).trans ((st_ne (by decide)).trans ((st_ne (by decide)).trans rfl)))) ((st_ne (by decide)).trans ((st_ne (by decide)).trans ((st_ne (by decide)).trans ((st_ne (by decide)).trans rfl)))) ((st_ne (by decide)).trans ((st_ne (by decide)).trans ((st_ne (by decide)).trans ((st_ne (by decide)).trans rfl)))) ((st_ne (by decide)).trans ((st_ne (by decide)).trans ((st_ne (by decide)).trans ((st_ne (by decide)).trans rfl)))) ((st_ne (by decide)).trans ((st_ne (by decide)).trans ((st_ne (by decide)).trans ((st_ne (by decide)).trans rfl)))) ((st_ne (by decide)).trans ((st_ne (by decide)).trans ((st_ne (by decide)).trans ((st_ne (by decide)).trans rfl)))) ((st_ne (by decide)).trans ((st_ne (by decide)).trans ((st_ne (by decide)).trans ((st_ne (by decide)).trans rfl)))) ((st_ne (by decide)).trans ((st_ne (by decide)).trans ((st_ne (by decide)).trans ((st_ne (by decide)).trans rfl)))) ((st_ne (by decide)).trans ((st_ne (by decide)).trans ((st_ne (by decide)).trans ((st_ne (by decide)).trans rfl)))) ((st_ne (by decide)).trans ((st_ne (by decide)).trans ((st_ne (by decide)).trans ((st_ne (by decide)).trans rfl)))) ((st_ne (by decide)).trans ((st_ne (by decide)).trans ((st_ne (by decide)).trans ((st_ne (by decide)).trans rfl)))) ((st_ne (by decide)).trans ((st_ne (by decide)).trans ((st_ne (by decide)).trans ((st_ne (by decide)).trans rfl)))) ((st_ne (by decide)).trans ((st_ne (by decide)).trans ((st_ne (by decide)).trans ((st_ne (by decide)).trans rfl)))) ((st_ne (by decide)).trans ((st_ne (by decide)).trans ((st_ne (by decide)).trans ((st_ne (by decide)).trans rfl)))) ((st_ne (by decide)).trans ((st_ne (by decide)).trans ((st_ne (by decide)).trans ((st_ne (by decide)).trans rfl)))) ((st_ne (by decide)).trans ((st_ne (by decide)).trans ((st_ne (by decide)).trans ((st_ne (by decide)).trans rfl)))) ((st_ne (by decide)).trans ((st_ne (by decide)).trans ((st_ne (by decide)).trans ((st_ne (by decide)).trans rfl)))) ((st_ne (by decide)).trans ((st_ne (by decide)).trans ((st_ne (by decide)).trans ((st_ne (by decide)).trans rfl)))) ((st_ne (by decide)).trans ((st_ne (by decide)).trans ((st_ne (by decide)).trans ((st_ne (by decide)).trans rfl)))) ((st_ne (by decide)).trans ((st_ne (by decide)).trans ((st_ne (by decide)).trans ((st_ne (by decide)).trans rfl)))) ((st_ne (by decide)).trans ((st_ne (by decide)).trans ((st_ne (by decide)).trans ((st_ne (by decide)).trans rfl)))) ((st_ne (by decide)).trans ((st_ne (by decide)).trans ((st_ne (by decide)).trans ((st_ne (by decide)).trans rfl)))) ((st_ne (by decide)).trans ((st_ne (by decide)).trans ((st_ne (by decide)).trans ((st_ne (by decide)).trans rfl)))) ((st_ne (by decide)).trans ((st_ne (by decide)).trans ((st_ne (by decide)).trans ((st_ne (by decide)).trans rfl)))) ((st_ne (by decide)).trans ((st_ne (by decide)).trans ((st_ne (by decide)).trans ((st_ne (by decide)).trans rfl)))) ((st_ne (by decide)).trans ((st_ne (by decide)).trans ((st_ne (by decide)).trans ((st_ne (by decide)).trans rfl)))) ((st_ne (by decide)).trans ((st_ne (by decide)).trans ((st_ne (by decide)).trans ((st_ne (by decide)).trans rfl)))) ((st_ne (by decide)).trans ((st_ne (by decide)).trans ((st_ne (by decide)).trans ((st_ne (by decide)).trans rfl)))) ((st_ne (by decide)).trans ((st_ne (by decide)).trans ((st_ne (by decide)).trans ((st_ne (by decide)).trans rfl)))) h0 ((st_ne (by decide)).trans ((st_ne (by decide)).trans ((st_ne (by decide)).trans ((st_ne (by decide)).trans rfl)))) ((st_ne (by decide)).trans ((st_ne (by decide)).trans ((st_ne (by decide)).trans ((st_ne (by decide)).trans rfl)))) ((st_ne (by decide)).trans ((st_ne (by decide)).trans ((st_ne (by decide)).trans ((st_ne (by decide)).trans rfl)))) h1 h2) gv_L_106 hv_X12_spell ⟨Nat.le_of_ble_eq_true rfl, Nat.le_of_ble_eq_true rfl⟩ hl.1 rfl (Nat.le_of_ble_eq_true rfl) ⟨Nat.le_of_ble_eq_true rfl, Nat.le_of_ble_eq_true rfl⟩ dL_law_863 (fun H locs w => ?_)
  refine lv_icmp_eq (tgt := 1065) hx hb dL_law_866 (by decide) (fun _ => ?_) (fun c1 => absurd c1 (by decide))
  exact kk _ _ _ w
set_option maxRecDepth 4000 in
theorem c_X11_spell_323 {l : Launch} {D : va_G} {B : Nat} {cy : Nat → ClassId} {M : Mem} {p1 : Int32} {p2 : Int32} (h0 : ¬ p1 < 0) (h1 : M.1 22 2 = 0) (h2 : 0 < p1) : Ci l D B cy yX11_spell cX11_spell 3 (some .int) 1 21 [.ref (B + 0), .int p1, .int p2] M (fun r M1 => r = (-1) ∧ M1 = M) := by
  refine s_any (by decide) (Nat.le_of_ble_eq_true rfl) ?_
  intro p e s m below meth c ls F hr hlocks w hl
  have F : CallFix p m c cX11_spell 3 s _ TB RX11 := F
  have hx := F.1
  have hb := F.2.1
  have hl : lv_has ls 3 [(0, .ref (B + 0)), (1, .int p1), (2, .int p2)] := hl
  refine lv_aload_n hx hb dX11_spell_0 rfl (lv_at hl 0 rfl) ?_
  refine f_11_3 F w (a := 0) rfl tb_73 dX11_spell_1 ?_
  refine lv_iload_n hx hb dX11_spell_4 rfl (lv_at hl 1 rfl) ?_
  refine x_Vi F w (As := [.int p1]) (rest := []) (a := 22) (by decide) (sh_0 rfl _ _) rfl (c_X0_covers_215 h0 (h1) h2) gv_X11_193 hv_X0_covers ⟨Nat.le_of_ble_eq_true rfl, Nat.le_of_ble_eq_true rfl⟩ hl.1 rfl (Nat.le_of_ble_eq_true rfl) ⟨Nat.zero_le _, Nat.zero_le _⟩ dX11_spell_5 (fun H locs w => ?_)
  refine lv_if_eq (tgt := 16) hx hb dX11_spell_8 (by decide) (fun _ => ?_) (fun c1 => absurd c1 (by decide))
  refine lv_iconst (v := (-1)) hx hb dX11_spell_16 (by decide) ?_
  exact e_i F w hr hlocks ⟨rfl, rfl⟩ dX11_spell_17
set_option maxRecDepth 4000 in
theorem c_X12_spell_324 {l : Launch} {D : va_G} {B : Nat} {cy : Nat → ClassId} {M : Mem} {p1 : Int32} {p2 : Int32} (h0 : M.1 146 5 = 0) (h1 : ¬ p1 < 0) (h2 : 0 < p1) : Ci l D B cy yX12_spell cX12_spell 3 (some .int) 2 43 [.ref (B + 146), .int p1, .int p2] M (fun r M1 => r = (-1) ∧ M1 = M) := by
  refine s_any (by decide) (Nat.le_of_ble_eq_true rfl) ?_
  intro p e s m below meth c ls F hr hlocks w hl
  have F : CallFix p m c cX12_spell 3 s _ TB RX12 := F
  have hx := F.1
  have hb := F.2.1
  have hl : lv_has ls 3 [(0, .ref (B + 146)), (1, .int p1), (2, .int p2)] := hl
  refine lv_aload_n hx hb dX12_spell_0 rfl (lv_at hl 0 rfl) ?_
  refine lv_iload_n hx hb dX12_spell_1 rfl (lv_at hl 1 rfl) ?_
  refine x_Vi F w (As := [.int p1]) (rest := []) (a := 146) (by decide) (sh_12 rfl _ _) rfl (c_X12_lays_262 (h0) h1 h2) gv_X12_261 hv_X12_lays ⟨Nat.le_of_ble_eq_true rfl, Nat.le_of_ble_eq_true rfl⟩ hl.1 rfl (Nat.le_of_ble_eq_true rfl) ⟨Nat.zero_le _, Nat.zero_le _⟩ dX12_spell_2 (fun H locs w => ?_)
  refine lv_if_eq (tgt := 13) hx hb dX12_spell_5 (by decide) (fun _ => ?_) (fun c1 => absurd c1 (by decide))
  refine lv_iconst (v := (-1)) hx hb dX12_spell_13 (by decide) ?_
  exact e_i F w hr hlocks ⟨rfl, rfl⟩ dX12_spell_14
set_option maxRecDepth 8000 in
theorem la_20_78 {p : Program} {l : Launch} {e : Env} {s : State} {m : MethodId} {below : List Frame} {meth : Method} {c : Code} {D : va_G} {B b : Nat} {cy : Nat → ClassId} {H : Heap} {locs : List Loc} {ls : Array Slot} {xs : Nat → Int32} {Q : State → Prop} (F : CallFix p m c code 4 s #[Value.ref b] TB RL) (hX : va_X b 6 xs s s.heap) (hbl : b < s.heap.size) (hbA : ¬ B ≤ b) (w : Wd D B cy s s.heap M0 H locs) (hl : lv_has ls 4 [(3, .int 0), (2, .ref (B + 146)), (1, .ref (B + 0)), (0, .ref b)]) (h0 : ¬ (xs 1) < 0) (h1 : 0 < (xs 1)) (kk : ∀ (M1 : Mem) (H1 : Heap) (locs1 : List Loc), Wd D B cy s s.heap M1 H1 locs1 → W p l e room_1 s m #[Value.ref b] below meth c H1 locs1 159 13107 Q (F0 m 1065 ls [])) : W p l e room_1 s m #[Value.ref b] below meth c H locs 159 13107 Q (F0 m 838 ls []) := by
  have hx := F.1
  have hb := F.2.1
  refine lv_aload_n hx hb dL_law_838 rfl (lv_at hl 2 rfl) ?_
  refine lv_aload_n hx hb dL_law_839 rfl (lv_at hl 3 rfl) ?_
  refine lv_iload_n hx hb dL_law_840 rfl (lv_at hl 0 rfl) ?_
  refine lv_iconst (v := 1) hx hb dL_law_841 (by decide) ?_
  refine lv_iadd hx hb dL_law_842 ?_
  refine r_val (v := 1) (by decide) ?_
  refine va_sld hx hb hX hbl hbA w.2.2.1 (vpi (by decide) (by decide)) dL_law_843 ?_
  refine r_val (v := xs 1) (congrArg xs (show (1 : Int32).toNatClampNeg = 1 by decide)) ?_
  refine lv_aload_n hx hb dL_law_844 rfl (lv_at hl 3 rfl) ?_
  refine lv_iload_n hx hb dL_law_845 rfl (lv_at hl 0 rfl) ?_
  refine lv_iconst (v := 2) hx hb dL_law_846 (by decide) ?_
  refine lv_iadd hx hb dL_law_847 ?_
  refine r_val (v := 2) (by decide) ?_
  refine va_sld hx hb hX hbl hbA w.2.2.1 (vpi (by decide) (by decide)) dL_law_848 ?_
  refine r_val (v := xs 2) (congrArg xs (show (2 : Int32).toNatClampNeg = 2 by decide)) ?_
  refine x_Vi F w (As := [.int (xs 1), .int (xs 2)]) (rest := []) (a := 0) (by decide) (sh_11 rfl _ _) rfl (c_X11_spell_323 h0 (rfl) h1) gv_L_103 hv_X11_spell ⟨Nat.le_of_ble_eq_true rfl, Nat.le_of_ble_eq_true rfl⟩ hl.1 rfl (Nat.le_of_ble_eq_true rfl) ⟨Nat.le_of_ble_eq_true rfl, Nat.le_of_ble_eq_true rfl⟩ dL_law_849 (fun H locs w => ?_)
  refine lv_aload_n hx hb dL_law_852 rfl (lv_at hl 1 rfl) ?_
  refine lv_aload_n hx hb dL_law_853 rfl (lv_at hl 3 rfl) ?_
  refine lv_iload_n hx hb dL_law_854 rfl (lv_at hl 0 rfl) ?_
  refine lv_iconst (v := 1) hx hb dL_law_855 (by decide) ?_
  refine lv_iadd hx hb dL_law_856 ?_
  refine r_val (v := 1) (by decide) ?_
  refine va_sld hx hb hX hbl hbA w.2.2.1 (vpi (by decide) (by decide)) dL_law_857 ?_
  refine r_val (v := xs 1) (congrArg xs (show (1 : Int32).toNatClampNeg = 1 by decide)) ?_
  refine lv_aload_n hx hb dL_law_858 rfl (lv_at hl 3 rfl) ?_
  refine lv_iload_n hx hb dL_law_859 rfl (lv_at hl 0 rfl) ?_
  refine lv_iconst (v := 2) hx hb dL_law_860 (by decide) ?_
  refine lv_iadd hx hb dL_law_861 ?_
  refine r_val (v := 2) (by decide) ?_
  refine va_sld hx hb hX hbl hbA w.2.2.1 (vpi (by decide) (by decide)) dL_law_862 ?_
  refine r_val (v := xs 2) (congrArg xs (show (2 : Int32).toNatClampNeg = 2 by decide)) ?_
  refine x_Vi F w (As := [.int (xs 1), .int (xs 2)]) (rest := [.int (-1)]) (a := 146) (by decide) (sh_12 rfl _ _) rfl (c_X12_spell_324 (rfl) h0 h1) gv_L_106 hv_X12_spell ⟨Nat.le_of_ble_eq_true rfl, Nat.le_of_ble_eq_true rfl⟩ hl.1 rfl (Nat.le_of_ble_eq_true rfl) ⟨Nat.le_of_ble_eq_true rfl, Nat.le_of_ble_eq_true rfl⟩ dL_law_863 (fun H locs w => ?_)
  refine lv_icmp_eq (tgt := 1065) hx hb dL_law_866 (by decide) (fun _ => ?_) (fun c1 => absurd c1 (by decide))
  exact kk _ _ _ w
set_option maxRecDepth 8000 in
theorem lc_20 {p : Program} {l : Launch} {e : Env} {s : State} {m : MethodId} {below : List Frame} {meth : Method} {c : Code} {D : va_G} {B b : Nat} {cy : Nat → ClassId} {H : Heap} {locs : List Loc} {ls : Array Slot} {xs : Nat → Int32} {Q : State → Prop} (F : CallFix p m c code 4 s #[Value.ref b] TB RL) (hX : va_X b 6 xs s s.heap) (hbl : b < s.heap.size) (hbA : ¬ B ≤ b) (w : Wd D B cy s s.heap M0 H locs) (hl : lv_has ls 4 [(3, .int 0), (2, .ref (B + 146)), (1, .ref (B + 0)), (0, .ref b)]) (kk : ∀ (M1 : Mem) (H1 : Heap) (locs1 : List Loc), Wd D B cy s s.heap M1 H1 locs1 → W p l e room_1 s m #[Value.ref b] below meth c H1 locs1 159 13107 Q (F0 m 1065 ls [])) : W p l e room_1 s m #[Value.ref b] below meth c H locs 159 13107 Q (F0 m 838 ls []) := by
  rcases (show (xs 1).toInt < 0 ∨ (xs 1).toInt = 0 ∨ 0 < (xs 1).toInt by omega) with h1 | h1 | h1
  · skip
    exact la_20_72 F hX hbl hbA w hl (by rw [Int32.lt_iff_toInt_lt, show (0 : Int32).toInt = 0 from by decide]; omega) kk
  · have x1 : xs 1 = 0 := Int32.toInt_inj.mp (h1.trans (by decide))
    rcases (show (xs 2).toInt < (-1) ∨ (xs 2).toInt = -1 ∨ (xs 2).toInt = 0 ∨ (xs 2).toInt = 1 ∨ 1 < (xs 2).toInt by omega) with h2 | h2 | h2 | h2 | h2
    · skip
      exact la_20_73 F hX hbl hbA w hl x1 (by rw [Int32.le_iff_toInt_le, show (-1 : Int32).toInt = -1 from by decide]; omega) kk
    · have x2 : xs 2 = (-1) := Int32.toInt_inj.mp (h2.trans (by decide))
      exact la_20_74 F hX hbl hbA w hl x1 x2 kk
    · have x2 : xs 2 = 0 := Int32.toInt_inj.mp (h2.trans (by decide))
      exact la_20_75 F hX hbl hbA w hl x1 x2 kk
    · have x2 : xs 2 = 1 := Int32.toInt_inj.mp (h2.trans (by decide))
      exact la_20_76 F hX hbl hbA w hl x1 x2 kk
    · skip
      exact la_20_77 F hX hbl hbA w hl x1 (by rw [Int32.le_iff_toInt_le, show (-1 : Int32).toInt = -1 from by decide]; omega) (fun h => absurd h2 (by rw [h]; decide)) (by rw [Int32.le_iff_toInt_le, show (2 : Int32).toInt = 2 from by decide]; omega) kk
  · skip
    exact la_20_78 F hX hbl hbA w hl (by rw [Int32.lt_iff_toInt_lt, show (0 : Int32).toInt = 0 from by decide]; omega) (by rw [Int32.lt_iff_toInt_lt, show (0 : Int32).toInt = 0 from by decide]; omega) kk
theorem dL_law_871 : decode cL_law 871 = .ok (.aload_n 1, 1) := by decide +kernel
theorem dL_law_872 : decode cL_law 872 = .ok (.aload_n 0, 1) := by decide +kernel
theorem dL_law_873 : decode cL_law 873 = .ok (.iload_n 3, 1) := by decide +kernel
theorem dL_law_874 : decode cL_law 874 = .ok (.iconst 1, 1) := by decide +kernel
theorem dL_law_875 : decode cL_law 875 = .ok (.iadd, 1) := by decide +kernel
theorem dL_law_876 : decode cL_law 876 = .ok (.iaload, 1) := by decide +kernel
theorem dL_law_877 : decode cL_law 877 = .ok (.aload_n 0, 1) := by decide +kernel
theorem dL_law_878 : decode cL_law 878 = .ok (.iload_n 3, 1) := by decide +kernel
theorem dL_law_879 : decode cL_law 879 = .ok (.iconst 2, 1) := by decide +kernel
theorem dL_law_880 : decode cL_law 880 = .ok (.iadd, 1) := by decide +kernel
theorem dL_law_881 : decode cL_law 881 = .ok (.iaload, 1) := by decide +kernel
theorem dL_law_882 : decode cL_law 882 = .ok (.invokevirtual 107, 3) := by decide +kernel
theorem dX11_rule_0 : decode cX11_rule 0 = .ok (.aload_n 0, 1) := by decide +kernel
theorem dX11_rule_1 : decode cX11_rule 1 = .ok (.getfield 35, 3) := by decide +kernel
theorem dX11_rule_4 : decode cX11_rule 4 = .ok (.iload_n 1, 1) := by decide +kernel
theorem dX11_rule_5 : decode cX11_rule 5 = .ok (.invokevirtual 173, 3) := by decide +kernel
theorem dX11_rule_8 : decode cX11_rule 8 = .ok (.ifCond .eq 13, 3) := by decide +kernel
theorem dX11_rule_21 : decode cX11_rule 21 = .ok (.iconst (-1), 1) := by decide +kernel
theorem dX11_rule_22 : decode cX11_rule 22 = .ok (.ireturn, 1) := by decide +kernel
set_option maxRecDepth 4000 in
theorem c_X11_rule_325 {l : Launch} {D : va_G} {B : Nat} {cy : Nat → ClassId} {M : Mem} {p1 : Int32} {p2 : Int32} (h0 : p1 < 0) : Ci l D B cy yX11_rule cX11_rule 3 (some .int) 1 21 [.ref (B + 0), .int p1, .int p2] M (fun r M1 => r = (-1) ∧ M1 = M) := by
  refine s_any (by decide) (Nat.le_of_ble_eq_true rfl) ?_
  intro p e s m below meth c ls F hr hlocks w hl
  have F : CallFix p m c cX11_rule 3 s _ TB RX11 := F
  have hx := F.1
  have hb := F.2.1
  have hl : lv_has ls 3 [(0, .ref (B + 0)), (1, .int p1), (2, .int p2)] := hl
  refine lv_aload_n hx hb dX11_rule_0 rfl (lv_at hl 0 rfl) ?_
  refine f_11_3 F w (a := 0) rfl tb_73 dX11_rule_1 ?_
  refine lv_iload_n hx hb dX11_rule_4 rfl (lv_at hl 1 rfl) ?_
  refine x_Vi F w (As := [.int p1]) (rest := []) (a := 22) (by decide) (sh_0 rfl _ _) rfl (c_X0_hasRule_195 h0) gv_X11_173 hv_X0_hasRule ⟨Nat.le_of_ble_eq_true rfl, Nat.le_of_ble_eq_true rfl⟩ hl.1 rfl (Nat.le_of_ble_eq_true rfl) ⟨Nat.zero_le _, Nat.zero_le _⟩ dX11_rule_5 (fun H locs w => ?_)
  refine lv_if_eq (tgt := 21) hx hb dX11_rule_8 (by decide) (fun _ => ?_) (fun c1 => absurd c1 (by decide))
  refine lv_iconst (v := (-1)) hx hb dX11_rule_21 (by decide) ?_
  exact e_i F w hr hlocks ⟨rfl, rfl⟩ dX11_rule_22
theorem tk_X11_rule : Cond.code yX11_rule cX11_rule 3 (some .int) ∈ TB := tbm (tc4 (List.mem_of_getElem? (i := 205) rfl)) rfl
theorem gc_X11_rule : GoodIn TB (cw yX11_rule cX11_rule 3 (some .int)) := goodIn_c2 tk_X11_rule
theorem tb_484 : Cond.methodLink "ToneLinesLaw" 107 yX11_rule ∈ TB := tbm (tc4 (List.mem_of_getElem? (i := 202) rfl)) rfl
theorem tb_485 : Cond.instanceMethod yX11_rule ∈ TB := tbm (tc4 (List.mem_of_getElem? (i := 203) rfl)) rfl
theorem tb_486 : Cond.selects "ToneLines" yX11_rule yX11_rule ∈ TB := tbm (tc4 (List.mem_of_getElem? (i := 204) rfl)) rfl
theorem gv_L_107 : GoodIn TB (wsV RL 107 RX11 yX11_rule (cw yX11_rule cX11_rule 3 (some .int))) := goodIn_4 tb_484 tb_485 tb_486 tb_145 gc_X11_rule
theorem hv_X11_rule : yX11_rule.cls = RX11 ∧ yX11_rule.cls ≠ "java/lang/invoke/MethodHandle" ∧ yX11_rule.cls ≠ "java/lang/invoke/VarHandle" ∧ (parseMethodDescriptor yX11_rule.desc).map (fun d => d.parameters.length) = some 2 := by decide +kernel
theorem dL_law_885 : decode cL_law 885 = .ok (.aload_n 2, 1) := by decide +kernel
theorem dL_law_886 : decode cL_law 886 = .ok (.aload_n 0, 1) := by decide +kernel
theorem dL_law_887 : decode cL_law 887 = .ok (.iload_n 3, 1) := by decide +kernel
theorem dL_law_888 : decode cL_law 888 = .ok (.iconst 1, 1) := by decide +kernel
theorem dL_law_889 : decode cL_law 889 = .ok (.iadd, 1) := by decide +kernel
theorem dL_law_890 : decode cL_law 890 = .ok (.iaload, 1) := by decide +kernel
theorem dL_law_891 : decode cL_law 891 = .ok (.aload_n 0, 1) := by decide +kernel
theorem dL_law_892 : decode cL_law 892 = .ok (.iload_n 3, 1) := by decide +kernel
theorem dL_law_893 : decode cL_law 893 = .ok (.iconst 2, 1) := by decide +kernel
theorem dL_law_894 : decode cL_law 894 = .ok (.iadd, 1) := by decide +kernel
theorem dL_law_895 : decode cL_law 895 = .ok (.iaload, 1) := by decide +kernel
theorem dL_law_896 : decode cL_law 896 = .ok (.invokevirtual 110, 3) := by decide +kernel
theorem dX12_rule_0 : decode cX12_rule 0 = .ok (.aload_n 0, 1) := by decide +kernel
theorem dX12_rule_1 : decode cX12_rule 1 = .ok (.iload_n 1, 1) := by decide +kernel
theorem dX12_rule_2 : decode cX12_rule 2 = .ok (.invokevirtual 249, 3) := by decide +kernel
theorem dX12_rule_5 : decode cX12_rule 5 = .ok (.ifCond .eq 27, 3) := by decide +kernel
theorem dX12_rule_32 : decode cX12_rule 32 = .ok (.iconst (-1), 1) := by decide +kernel
theorem dX12_rule_33 : decode cX12_rule 33 = .ok (.ireturn, 1) := by decide +kernel
set_option maxRecDepth 4000 in
theorem c_X12_rule_326 {l : Launch} {D : va_G} {B : Nat} {cy : Nat → ClassId} {M : Mem} {p1 : Int32} {p2 : Int32} (h0 : M.1 146 5 = 0) (h1 : p1 < 0) : Ci l D B cy yX12_rule cX12_rule 3 (some .int) 2 43 [.ref (B + 146), .int p1, .int p2] M (fun r M1 => r = (-1) ∧ M1 = M) := by
  refine s_any (by decide) (Nat.le_of_ble_eq_true rfl) ?_
  intro p e s m below meth c ls F hr hlocks w hl
  have F : CallFix p m c cX12_rule 3 s _ TB RX12 := F
  have hx := F.1
  have hb := F.2.1
  have hl : lv_has ls 3 [(0, .ref (B + 146)), (1, .int p1), (2, .int p2)] := hl
  refine lv_aload_n hx hb dX12_rule_0 rfl (lv_at hl 0 rfl) ?_
  refine lv_iload_n hx hb dX12_rule_1 rfl (lv_at hl 1 rfl) ?_
  refine x_Vi F w (As := [.int p1]) (rest := []) (a := 146) (by decide) (sh_12 rfl _ _) rfl (c_X12_isRule_197 (h0) h1) gv_X12_249 hv_X12_isRule ⟨Nat.le_of_ble_eq_true rfl, Nat.le_of_ble_eq_true rfl⟩ hl.1 rfl (Nat.le_of_ble_eq_true rfl) ⟨Nat.zero_le _, Nat.zero_le _⟩ dX12_rule_2 (fun H locs w => ?_)
  refine lv_if_eq (tgt := 32) hx hb dX12_rule_5 (by decide) (fun _ => ?_) (fun c1 => absurd c1 (by decide))
  refine lv_iconst (v := (-1)) hx hb dX12_rule_32 (by decide) ?_
  exact e_i F w hr hlocks ⟨rfl, rfl⟩ dX12_rule_33
theorem tk_X12_rule : Cond.code yX12_rule cX12_rule 3 (some .int) ∈ TB := tbm (tc6 (List.mem_of_getElem? (i := 228) rfl)) rfl
theorem gc_X12_rule : GoodIn TB (cw yX12_rule cX12_rule 3 (some .int)) := goodIn_c2 tk_X12_rule
theorem tb_487 : Cond.methodLink "ToneLinesLaw" 110 yX12_rule ∈ TB := tbm (tc6 (List.mem_of_getElem? (i := 225) rfl)) rfl
theorem tb_488 : Cond.instanceMethod yX12_rule ∈ TB := tbm (tc6 (List.mem_of_getElem? (i := 226) rfl)) rfl
theorem tb_489 : Cond.selects "ToneLinesModel" yX12_rule yX12_rule ∈ TB := tbm (tc6 (List.mem_of_getElem? (i := 227) rfl)) rfl
theorem gv_L_110 : GoodIn TB (wsV RL 110 RX12 yX12_rule (cw yX12_rule cX12_rule 3 (some .int))) := goodIn_4 tb_487 tb_488 tb_489 tb_150 gc_X12_rule
theorem hv_X12_rule : yX12_rule.cls = RX12 ∧ yX12_rule.cls ≠ "java/lang/invoke/MethodHandle" ∧ yX12_rule.cls ≠ "java/lang/invoke/VarHandle" ∧ (parseMethodDescriptor yX12_rule.desc).map (fun d => d.parameters.length) = some 2 := by decide +kernel
theorem dL_law_899 : decode cL_law 899 = .ok (.if_icmp .eq 166, 3) := by decide +kernel
set_option maxRecDepth 8000 in
theorem la_21_79 {p : Program} {l : Launch} {e : Env} {s : State} {m : MethodId} {below : List Frame} {meth : Method} {c : Code} {D : va_G} {B b : Nat} {cy : Nat → ClassId} {H : Heap} {locs : List Loc} {ls : Array Slot} {xs : Nat → Int32} {Q : State → Prop} (F : CallFix p m c code 4 s #[Value.ref b] TB RL) (hX : va_X b 6 xs s s.heap) (hbl : b < s.heap.size) (hbA : ¬ B ≤ b) (w : Wd D B cy s s.heap M0 H locs) (hl : lv_has ls 4 [(3, .int 0), (2, .ref (B + 146)), (1, .ref (B + 0)), (0, .ref b)]) (h0 : (xs 1) < 0) (kk : ∀ (M1 : Mem) (H1 : Heap) (locs1 : List Loc), Wd D B cy s s.heap M1 H1 locs1 → W p l e room_1 s m #[Value.ref b] below meth c H1 locs1 159 13107 Q (F0 m 1065 ls [])) : W p l e room_1 s m #[Value.ref b] below meth c H locs 159 13107 Q (F0 m 871 ls []) := by
  have hx := F.1
  have hb := F.2.1
  refine lv_aload_n hx hb dL_law_871 rfl (lv_at hl 2 rfl) ?_
  refine lv_aload_n hx hb dL_law_872 rfl (lv_at hl 3 rfl) ?_
  refine lv_iload_n hx hb dL_law_873 rfl (lv_at hl 0 rfl) ?_
  refine lv_iconst (v := 1) hx hb dL_law_874 (by decide) ?_
  refine lv_iadd hx hb dL_law_875 ?_
  refine r_val (v := 1) (by decide) ?_
  refine va_sld hx hb hX hbl hbA w.2.2.1 (vpi (by decide) (by decide)) dL_law_876 ?_
  refine r_val (v := xs 1) (congrArg xs (show (1 : Int32).toNatClampNeg = 1 by decide)) ?_
  refine lv_aload_n hx hb dL_law_877 rfl (lv_at hl 3 rfl) ?_
  refine lv_iload_n hx hb dL_law_878 rfl (lv_at hl 0 rfl) ?_
  refine lv_iconst (v := 2) hx hb dL_law_879 (by decide) ?_
  refine lv_iadd hx hb dL_law_880 ?_
  refine r_val (v := 2) (by decide) ?_
  refine va_sld hx hb hX hbl hbA w.2.2.1 (vpi (by decide) (by decide)) dL_law_881 ?_
  refine r_val (v := xs 2) (congrArg xs (show (2 : Int32).toNatClampNeg = 2 by decide)) ?_
  refine x_Vi F w (As := [.int (xs 1), .int (xs 2)]) (rest := []) (a := 0) (by decide) (sh_11 rfl _ _) rfl (c_X11_rule_325 h0) gv_L_107 hv_X11_rule ⟨Nat.le_of_ble_eq_true rfl, Nat.le_of_ble_eq_true rfl⟩ hl.1 rfl (Nat.le_of_ble_eq_true rfl) ⟨Nat.le_of_ble_eq_true rfl, Nat.le_of_ble_eq_true rfl⟩ dL_law_882 (fun H locs w => ?_)
  refine lv_aload_n hx hb dL_law_885 rfl (lv_at hl 1 rfl) ?_
  refine lv_aload_n hx hb dL_law_886 rfl (lv_at hl 3 rfl) ?_
  refine lv_iload_n hx hb dL_law_887 rfl (lv_at hl 0 rfl) ?_
  refine lv_iconst (v := 1) hx hb dL_law_888 (by decide) ?_
  refine lv_iadd hx hb dL_law_889 ?_
  refine r_val (v := 1) (by decide) ?_
  refine va_sld hx hb hX hbl hbA w.2.2.1 (vpi (by decide) (by decide)) dL_law_890 ?_
  refine r_val (v := xs 1) (congrArg xs (show (1 : Int32).toNatClampNeg = 1 by decide)) ?_
  refine lv_aload_n hx hb dL_law_891 rfl (lv_at hl 3 rfl) ?_
  refine lv_iload_n hx hb dL_law_892 rfl (lv_at hl 0 rfl) ?_
  refine lv_iconst (v := 2) hx hb dL_law_893 (by decide) ?_
  refine lv_iadd hx hb dL_law_894 ?_
  refine r_val (v := 2) (by decide) ?_
  refine va_sld hx hb hX hbl hbA w.2.2.1 (vpi (by decide) (by decide)) dL_law_895 ?_
  refine r_val (v := xs 2) (congrArg xs (show (2 : Int32).toNatClampNeg = 2 by decide)) ?_
  refine x_Vi F w (As := [.int (xs 1), .int (xs 2)]) (rest := [.int (-1)]) (a := 146) (by decide) (sh_12 rfl _ _) rfl (c_X12_rule_326 (rfl) h0) gv_L_110 hv_X12_rule ⟨Nat.le_of_ble_eq_true rfl, Nat.le_of_ble_eq_true rfl⟩ hl.1 rfl (Nat.le_of_ble_eq_true rfl) ⟨Nat.le_of_ble_eq_true rfl, Nat.le_of_ble_eq_true rfl⟩ dL_law_896 (fun H locs w => ?_)
  refine lv_icmp_eq (tgt := 1065) hx hb dL_law_899 (by decide) (fun _ => ?_) (fun c1 => absurd c1 (by decide))
  exact kk _ _ _ w
set_option maxRecDepth 4000 in
theorem c_X11_rule_327 {l : Launch} {D : va_G} {B : Nat} {cy : Nat → ClassId} {M : Mem} {p1 : Int32} {p2 : Int32} (h0 : ¬ p1 < 0) (h1 : M.1 22 2 = 0) (h2 : 0 ≤ p1) : Ci l D B cy yX11_rule cX11_rule 3 (some .int) 1 21 [.ref (B + 0), .int p1, .int p2] M (fun r M1 => r = (-1) ∧ M1 = M) := by
  refine s_any (by decide) (Nat.le_of_ble_eq_true rfl) ?_
  intro p e s m below meth c ls F hr hlocks w hl
  have F : CallFix p m c cX11_rule 3 s _ TB RX11 := F
  have hx := F.1
  have hb := F.2.1
  have hl : lv_has ls 3 [(0, .ref (B + 0)), (1, .int p1), (2, .int p2)] := hl
  refine lv_aload_n hx hb dX11_rule_0 rfl (lv_at hl 0 rfl) ?_
  refine f_11_3 F w (a := 0) rfl tb_73 dX11_rule_1 ?_
  refine lv_iload_n hx hb dX11_rule_4 rfl (lv_at hl 1 rfl) ?_
  refine x_Vi F w (As := [.int p1]) (rest := []) (a := 22) (by decide) (sh_0 rfl _ _) rfl (c_X0_hasRule_199 h0 (h1) h2) gv_X11_173 hv_X0_hasRule ⟨Nat.le_of_ble_eq_true rfl, Nat.le_of_ble_eq_true rfl⟩ hl.1 rfl (Nat.le_of_ble_eq_true rfl) ⟨Nat.zero_le _, Nat.zero_le _⟩ dX11_rule_5 (fun H locs w => ?_)
  refine lv_if_eq (tgt := 21) hx hb dX11_rule_8 (by decide) (fun _ => ?_) (fun c1 => absurd c1 (by decide))
  refine lv_iconst (v := (-1)) hx hb dX11_rule_21 (by decide) ?_
  exact e_i F w hr hlocks ⟨rfl, rfl⟩ dX11_rule_22
set_option maxRecDepth 4000 in
theorem c_X12_rule_328 {l : Launch} {D : va_G} {B : Nat} {cy : Nat → ClassId} {M : Mem} {p1 : Int32} {p2 : Int32} (h0 : M.1 146 5 = 0) (h1 : ¬ p1 < 0) (h2 : (-1) < p1) : Ci l D B cy yX12_rule cX12_rule 3 (some .int) 2 43 [.ref (B + 146), .int p1, .int p2] M (fun r M1 => r = (-1) ∧ M1 = M) := by
  refine s_any (by decide) (Nat.le_of_ble_eq_true rfl) ?_
  intro p e s m below meth c ls F hr hlocks w hl
  have F : CallFix p m c cX12_rule 3 s _ TB RX12 := F
  have hx := F.1
  have hb := F.2.1
  have hl : lv_has ls 3 [(0, .ref (B + 146)), (1, .int p1), (2, .int p2)] := hl
  refine lv_aload_n hx hb dX12_rule_0 rfl (lv_at hl 0 rfl) ?_
  refine lv_iload_n hx hb dX12_rule_1 rfl (lv_at hl 1 rfl) ?_
  refine x_Vi F w (As := [.int p1]) (rest := []) (a := 146) (by decide) (sh_12 rfl _ _) rfl (c_X12_isRule_201 (h0) h1 h2) gv_X12_249 hv_X12_isRule ⟨Nat.le_of_ble_eq_true rfl, Nat.le_of_ble_eq_true rfl⟩ hl.1 rfl (Nat.le_of_ble_eq_true rfl) ⟨Nat.zero_le _, Nat.zero_le _⟩ dX12_rule_2 (fun H locs w => ?_)
  refine lv_if_eq (tgt := 32) hx hb dX12_rule_5 (by decide) (fun _ => ?_) (fun c1 => absurd c1 (by decide))
  refine lv_iconst (v := (-1)) hx hb dX12_rule_32 (by decide) ?_
  exact e_i F w hr hlocks ⟨rfl, rfl⟩ dX12_rule_33
set_option maxRecDepth 8000 in
theorem la_21_80 {p : Program} {l : Launch} {e : Env} {s : State} {m : MethodId} {below : List Frame} {meth : Method} {c : Code} {D : va_G} {B b : Nat} {cy : Nat → ClassId} {H : Heap} {locs : List Loc} {ls : Array Slot} {xs : Nat → Int32} {Q : State → Prop} (F : CallFix p m c code 4 s #[Value.ref b] TB RL) (hX : va_X b 6 xs s s.heap) (hbl : b < s.heap.size) (hbA : ¬ B ≤ b) (w : Wd D B cy s s.heap M0 H locs) (hl : lv_has ls 4 [(3, .int 0), (2, .ref (B + 146)), (1, .ref (B + 0)), (0, .ref b)]) (h0 : ¬ (xs 1) < 0) (h1 : 0 ≤ (xs 1)) (h2 : (-1) < (xs 1)) (kk : ∀ (M1 : Mem) (H1 : Heap) (locs1 : List Loc), Wd D B cy s s.heap M1 H1 locs1 → W p l e room_1 s m #[Value.ref b] below meth c H1 locs1 159 13107 Q (F0 m 1065 ls [])) : W p l e room_1 s m #[Value.ref b] below meth c H locs 159 13107 Q (F0 m 871 ls []) := by
  have hx := F.1
  have hb := F.2.1
  refine lv_aload_n hx hb dL_law_871 rfl (lv_at hl 2 rfl) ?_
  refine lv_aload_n hx hb dL_law_872 rfl (lv_at hl 3 rfl) ?_
  refine lv_iload_n hx hb dL_law_873 rfl (lv_at hl 0 rfl) ?_
  refine lv_iconst (v := 1) hx hb dL_law_874 (by decide) ?_
  refine lv_iadd hx hb dL_law_875 ?_
  refine r_val (v := 1) (by decide) ?_
  refine va_sld hx hb hX hbl hbA w.2.2.1 (vpi (by decide) (by decide)) dL_law_876 ?_
  refine r_val (v := xs 1) (congrArg xs (show (1 : Int32).toNatClampNeg = 1 by decide)) ?_
  refine lv_aload_n hx hb dL_law_877 rfl (lv_at hl 3 rfl) ?_
  refine lv_iload_n hx hb dL_law_878 rfl (lv_at hl 0 rfl) ?_
  refine lv_iconst (v := 2) hx hb dL_law_879 (by decide) ?_
  refine lv_iadd hx hb dL_law_880 ?_
  refine r_val (v := 2) (by decide) ?_
  refine va_sld hx hb hX hbl hbA w.2.2.1 (vpi (by decide) (by decide)) dL_law_881 ?_
  refine r_val (v := xs 2) (congrArg xs (show (2 : Int32).toNatClampNeg = 2 by decide)) ?_
  refine x_Vi F w (As := [.int (xs 1), .int (xs 2)]) (rest := []) (a := 0) (by decide) (sh_11 rfl _ _) rfl (c_X11_rule_327 h0 (rfl) h1) gv_L_107 hv_X11_rule ⟨Nat.le_of_ble_eq_true rfl, Nat.le_of_ble_eq_true rfl⟩ hl.1 rfl (Nat.le_of_ble_eq_true rfl) ⟨Nat.le_of_ble_eq_true rfl, Nat.le_of_ble_eq_true rfl⟩ dL_law_882 (fun H locs w => ?_)
  refine lv_aload_n hx hb dL_law_885 rfl (lv_at hl 1 rfl) ?_
  refine lv_aload_n hx hb dL_law_886 rfl (lv_at hl 3 rfl) ?_
  refine lv_iload_n hx hb dL_law_887 rfl (lv_at hl 0 rfl) ?_
  refine lv_iconst (v := 1) hx hb dL_law_888 (by decide) ?_
  refine lv_iadd hx hb dL_law_889 ?_
  refine r_val (v := 1) (by decide) ?_
  refine va_sld hx hb hX hbl hbA w.2.2.1 (vpi (by decide) (by decide)) dL_law_890 ?_
  refine r_val (v := xs 1) (congrArg xs (show (1 : Int32).toNatClampNeg = 1 by decide)) ?_
  refine lv_aload_n hx hb dL_law_891 rfl (lv_at hl 3 rfl) ?_
  refine lv_iload_n hx hb dL_law_892 rfl (lv_at hl 0 rfl) ?_
  refine lv_iconst (v := 2) hx hb dL_law_893 (by decide) ?_
  refine lv_iadd hx hb dL_law_894 ?_
  refine r_val (v := 2) (by decide) ?_
  refine va_sld hx hb hX hbl hbA w.2.2.1 (vpi (by decide) (by decide)) dL_law_895 ?_
  refine r_val (v := xs 2) (congrArg xs (show (2 : Int32).toNatClampNeg = 2 by decide)) ?_
  refine x_Vi F w (As := [.int (xs 1), .int (xs 2)]) (rest := [.int (-1)]) (a := 146) (by decide) (sh_12 rfl _ _) rfl (c_X12_rule_328 (rfl) h0 h2) gv_L_110 hv_X12_rule ⟨Nat.le_of_ble_eq_true rfl, Nat.le_of_ble_eq_true rfl⟩ hl.1 rfl (Nat.le_of_ble_eq_true rfl) ⟨Nat.le_of_ble_eq_true rfl, Nat.le_of_ble_eq_true rfl⟩ dL_law_896 (fun H locs w => ?_)
  refine lv_icmp_eq (tgt := 1065) hx hb dL_law_899 (by decide) (fun _ => ?_) (fun c1 => absurd c1 (by decide))
  exact kk _ _ _ w
set_option maxRecDepth 8000 in
theorem lc_21 {p : Program} {l : Launch} {e : Env} {s : State} {m : MethodId} {below : List Frame} {meth : Method} {c : Code} {D : va_G} {B b : Nat} {cy : Nat → ClassId} {H : Heap} {locs : List Loc} {ls : Array Slot} {xs : Nat → Int32} {Q : State → Prop} (F : CallFix p m c code 4 s #[Value.ref b] TB RL) (hX : va_X b 6 xs s s.heap) (hbl : b < s.heap.size) (hbA : ¬ B ≤ b) (w : Wd D B cy s s.heap M0 H locs) (hl : lv_has ls 4 [(3, .int 0), (2, .ref (B + 146)), (1, .ref (B + 0)), (0, .ref b)]) (kk : ∀ (M1 : Mem) (H1 : Heap) (locs1 : List Loc), Wd D B cy s s.heap M1 H1 locs1 → W p l e room_1 s m #[Value.ref b] below meth c H1 locs1 159 13107 Q (F0 m 1065 ls [])) : W p l e room_1 s m #[Value.ref b] below meth c H locs 159 13107 Q (F0 m 871 ls []) := by
  rcases (show (xs 1).toInt < 0 ∨ 0 ≤ (xs 1).toInt by omega) with h1 | h1
  · skip
    exact la_21_79 F hX hbl hbA w hl (by rw [Int32.lt_iff_toInt_lt, show (0 : Int32).toInt = 0 from by decide]; omega) kk
  · skip
    exact la_21_80 F hX hbl hbA w hl (by rw [Int32.lt_iff_toInt_lt, show (0 : Int32).toInt = 0 from by decide]; omega) (by rw [Int32.le_iff_toInt_le, show (0 : Int32).toInt = 0 from by decide]; omega) (by rw [Int32.lt_iff_toInt_lt, show (-1 : Int32).toInt = -1 from by decide]; omega) kk
theorem dL_law_904 : decode cL_law 904 = .ok (.aload_n 1, 1) := by decide +kernel
theorem dL_law_905 : decode cL_law 905 = .ok (.aload_n 0, 1) := by decide +kernel
theorem dL_law_906 : decode cL_law 906 = .ok (.iload_n 3, 1) := by decide +kernel
theorem dL_law_907 : decode cL_law 907 = .ok (.iconst 1, 1) := by decide +kernel
theorem dL_law_908 : decode cL_law 908 = .ok (.iadd, 1) := by decide +kernel
theorem dL_law_909 : decode cL_law 909 = .ok (.iaload, 1) := by decide +kernel
theorem dL_law_910 : decode cL_law 910 = .ok (.aload_n 0, 1) := by decide +kernel
theorem dL_law_911 : decode cL_law 911 = .ok (.iload_n 3, 1) := by decide +kernel
theorem dL_law_912 : decode cL_law 912 = .ok (.iconst 2, 1) := by decide +kernel
theorem dL_law_913 : decode cL_law 913 = .ok (.iadd, 1) := by decide +kernel
theorem dL_law_914 : decode cL_law 914 = .ok (.iaload, 1) := by decide +kernel
theorem dL_law_915 : decode cL_law 915 = .ok (.invokevirtual 111, 3) := by decide +kernel
theorem dX11_done_0 : decode cX11_done 0 = .ok (.aload_n 0, 1) := by decide +kernel
theorem dX11_done_1 : decode cX11_done 1 = .ok (.getfield 35, 3) := by decide +kernel
theorem dX11_done_4 : decode cX11_done 4 = .ok (.iload_n 1, 1) := by decide +kernel
theorem dX11_done_5 : decode cX11_done 5 = .ok (.invokevirtual 173, 3) := by decide +kernel
theorem dX11_done_8 : decode cX11_done 8 = .ok (.ifCond .eq 12, 3) := by decide +kernel
theorem dX11_done_20 : decode cX11_done 20 = .ok (.iconst (-1), 1) := by decide +kernel
theorem dX11_done_21 : decode cX11_done 21 = .ok (.ireturn, 1) := by decide +kernel
set_option maxRecDepth 4000 in
theorem c_X11_done_329 {l : Launch} {D : va_G} {B : Nat} {cy : Nat → ClassId} {M : Mem} {p1 : Int32} {p2 : Int32} (h0 : p1 < 0) : Ci l D B cy yX11_done cX11_done 3 (some .int) 1 21 [.ref (B + 0), .int p1, .int p2] M (fun r M1 => r = (-1) ∧ M1 = M) := by
  refine s_any (by decide) (Nat.le_of_ble_eq_true rfl) ?_
  intro p e s m below meth c ls F hr hlocks w hl
  have F : CallFix p m c cX11_done 3 s _ TB RX11 := F
  have hx := F.1
  have hb := F.2.1
  have hl : lv_has ls 3 [(0, .ref (B + 0)), (1, .int p1), (2, .int p2)] := hl
  refine lv_aload_n hx hb dX11_done_0 rfl (lv_at hl 0 rfl) ?_
  refine f_11_3 F w (a := 0) rfl tb_73 dX11_done_1 ?_
  refine lv_iload_n hx hb dX11_done_4 rfl (lv_at hl 1 rfl) ?_
  refine x_Vi F w (As := [.int p1]) (rest := []) (a := 22) (by decide) (sh_0 rfl _ _) rfl (c_X0_hasRule_195 h0) gv_X11_173 hv_X0_hasRule ⟨Nat.le_of_ble_eq_true rfl, Nat.le_of_ble_eq_true rfl⟩ hl.1 rfl (Nat.le_of_ble_eq_true rfl) ⟨Nat.zero_le _, Nat.zero_le _⟩ dX11_done_5 (fun H locs w => ?_)
  refine lv_if_eq (tgt := 20) hx hb dX11_done_8 (by decide) (fun _ => ?_) (fun c1 => absurd c1 (by decide))
  refine lv_iconst (v := (-1)) hx hb dX11_done_20 (by decide) ?_
  exact e_i F w hr hlocks ⟨rfl, rfl⟩ dX11_done_21
theorem tk_X11_done : Cond.code yX11_done cX11_done 3 (some .int) ∈ TB := tbm (tc4 (List.mem_of_getElem? (i := 209) rfl)) rfl
theorem gc_X11_done : GoodIn TB (cw yX11_done cX11_done 3 (some .int)) := goodIn_c2 tk_X11_done
theorem tb_490 : Cond.methodLink "ToneLinesLaw" 111 yX11_done ∈ TB := tbm (tc4 (List.mem_of_getElem? (i := 206) rfl)) rfl
theorem tb_491 : Cond.instanceMethod yX11_done ∈ TB := tbm (tc4 (List.mem_of_getElem? (i := 207) rfl)) rfl
theorem tb_492 : Cond.selects "ToneLines" yX11_done yX11_done ∈ TB := tbm (tc4 (List.mem_of_getElem? (i := 208) rfl)) rfl
theorem gv_L_111 : GoodIn TB (wsV RL 111 RX11 yX11_done (cw yX11_done cX11_done 3 (some .int))) := goodIn_4 tb_490 tb_491 tb_492 tb_145 gc_X11_done
theorem hv_X11_done : yX11_done.cls = RX11 ∧ yX11_done.cls ≠ "java/lang/invoke/MethodHandle" ∧ yX11_done.cls ≠ "java/lang/invoke/VarHandle" ∧ (parseMethodDescriptor yX11_done.desc).map (fun d => d.parameters.length) = some 2 := by decide +kernel
theorem dL_law_918 : decode cL_law 918 = .ok (.aload_n 2, 1) := by decide +kernel
theorem dL_law_919 : decode cL_law 919 = .ok (.aload_n 0, 1) := by decide +kernel
theorem dL_law_920 : decode cL_law 920 = .ok (.iload_n 3, 1) := by decide +kernel
theorem dL_law_921 : decode cL_law 921 = .ok (.iconst 1, 1) := by decide +kernel
theorem dL_law_922 : decode cL_law 922 = .ok (.iadd, 1) := by decide +kernel
theorem dL_law_923 : decode cL_law 923 = .ok (.iaload, 1) := by decide +kernel
theorem dL_law_924 : decode cL_law 924 = .ok (.aload_n 0, 1) := by decide +kernel
theorem dL_law_925 : decode cL_law 925 = .ok (.iload_n 3, 1) := by decide +kernel
theorem dL_law_926 : decode cL_law 926 = .ok (.iconst 2, 1) := by decide +kernel
theorem dL_law_927 : decode cL_law 927 = .ok (.iadd, 1) := by decide +kernel
theorem dL_law_928 : decode cL_law 928 = .ok (.iaload, 1) := by decide +kernel
theorem dL_law_929 : decode cL_law 929 = .ok (.invokevirtual 114, 3) := by decide +kernel
theorem dX12_done_0 : decode cX12_done 0 = .ok (.aload_n 0, 1) := by decide +kernel
theorem dX12_done_1 : decode cX12_done 1 = .ok (.iload_n 1, 1) := by decide +kernel
theorem dX12_done_2 : decode cX12_done 2 = .ok (.invokevirtual 249, 3) := by decide +kernel
theorem dX12_done_5 : decode cX12_done 5 = .ok (.ifCond .eq 12, 3) := by decide +kernel
theorem dX12_done_17 : decode cX12_done 17 = .ok (.iconst (-1), 1) := by decide +kernel
theorem dX12_done_18 : decode cX12_done 18 = .ok (.ireturn, 1) := by decide +kernel
set_option maxRecDepth 4000 in
theorem c_X12_done_330 {l : Launch} {D : va_G} {B : Nat} {cy : Nat → ClassId} {M : Mem} {p1 : Int32} {p2 : Int32} (h0 : M.1 146 5 = 0) (h1 : p1 < 0) : Ci l D B cy yX12_done cX12_done 4 (some .int) 2 43 [.ref (B + 146), .int p1, .int p2] M (fun r M1 => r = (-1) ∧ M1 = M) := by
  refine s_any (by decide) (Nat.le_of_ble_eq_true rfl) ?_
  intro p e s m below meth c ls F hr hlocks w hl
  have F : CallFix p m c cX12_done 4 s _ TB RX12 := F
  have hx := F.1
  have hb := F.2.1
  have hl : lv_has ls 4 [(0, .ref (B + 146)), (1, .int p1), (2, .int p2)] := hl
  refine lv_aload_n hx hb dX12_done_0 rfl (lv_at hl 0 rfl) ?_
  refine lv_iload_n hx hb dX12_done_1 rfl (lv_at hl 1 rfl) ?_
  refine x_Vi F w (As := [.int p1]) (rest := []) (a := 146) (by decide) (sh_12 rfl _ _) rfl (c_X12_isRule_197 (h0) h1) gv_X12_249 hv_X12_isRule ⟨Nat.le_of_ble_eq_true rfl, Nat.le_of_ble_eq_true rfl⟩ hl.1 rfl (Nat.le_of_ble_eq_true rfl) ⟨Nat.zero_le _, Nat.zero_le _⟩ dX12_done_2 (fun H locs w => ?_)
  refine lv_if_eq (tgt := 17) hx hb dX12_done_5 (by decide) (fun _ => ?_) (fun c1 => absurd c1 (by decide))
  refine lv_iconst (v := (-1)) hx hb dX12_done_17 (by decide) ?_
  exact e_i F w hr hlocks ⟨rfl, rfl⟩ dX12_done_18
theorem tk_X12_done : Cond.code yX12_done cX12_done 4 (some .int) ∈ TB := tbm (tc6 (List.mem_of_getElem? (i := 232) rfl)) rfl
theorem gc_X12_done : GoodIn TB (cw yX12_done cX12_done 4 (some .int)) := goodIn_c2 tk_X12_done
theorem tb_493 : Cond.methodLink "ToneLinesLaw" 114 yX12_done ∈ TB := tbm (tc6 (List.mem_of_getElem? (i := 229) rfl)) rfl
theorem tb_494 : Cond.instanceMethod yX12_done ∈ TB := tbm (tc6 (List.mem_of_getElem? (i := 230) rfl)) rfl
theorem tb_495 : Cond.selects "ToneLinesModel" yX12_done yX12_done ∈ TB := tbm (tc6 (List.mem_of_getElem? (i := 231) rfl)) rfl
theorem gv_L_114 : GoodIn TB (wsV RL 114 RX12 yX12_done (cw yX12_done cX12_done 4 (some .int))) := goodIn_4 tb_493 tb_494 tb_495 tb_150 gc_X12_done
theorem hv_X12_done : yX12_done.cls = RX12 ∧ yX12_done.cls ≠ "java/lang/invoke/MethodHandle" ∧ yX12_done.cls ≠ "java/lang/invoke/VarHandle" ∧ (parseMethodDescriptor yX12_done.desc).map (fun d => d.parameters.length) = some 2 := by decide +kernel
theorem dL_law_932 : decode cL_law 932 = .ok (.if_icmp .eq 133, 3) := by decide +kernel
set_option maxRecDepth 8000 in
theorem la_22_81 {p : Program} {l : Launch} {e : Env} {s : State} {m : MethodId} {below : List Frame} {meth : Method} {c : Code} {D : va_G} {B b : Nat} {cy : Nat → ClassId} {H : Heap} {locs : List Loc} {ls : Array Slot} {xs : Nat → Int32} {Q : State → Prop} (F : CallFix p m c code 4 s #[Value.ref b] TB RL) (hX : va_X b 6 xs s s.heap) (hbl : b < s.heap.size) (hbA : ¬ B ≤ b) (w : Wd D B cy s s.heap M0 H locs) (hl : lv_has ls 4 [(3, .int 0), (2, .ref (B + 146)), (1, .ref (B + 0)), (0, .ref b)]) (h0 : (xs 1) < 0) (kk : ∀ (M1 : Mem) (H1 : Heap) (locs1 : List Loc), Wd D B cy s s.heap M1 H1 locs1 → W p l e room_1 s m #[Value.ref b] below meth c H1 locs1 159 13107 Q (F0 m 1065 ls [])) : W p l e room_1 s m #[Value.ref b] below meth c H locs 159 13107 Q (F0 m 904 ls []) := by
  have hx := F.1
  have hb := F.2.1
  refine lv_aload_n hx hb dL_law_904 rfl (lv_at hl 2 rfl) ?_
  refine lv_aload_n hx hb dL_law_905 rfl (lv_at hl 3 rfl) ?_
  refine lv_iload_n hx hb dL_law_906 rfl (lv_at hl 0 rfl) ?_
  refine lv_iconst (v := 1) hx hb dL_law_907 (by decide) ?_
  refine lv_iadd hx hb dL_law_908 ?_
  refine r_val (v := 1) (by decide) ?_
  refine va_sld hx hb hX hbl hbA w.2.2.1 (vpi (by decide) (by decide)) dL_law_909 ?_
  refine r_val (v := xs 1) (congrArg xs (show (1 : Int32).toNatClampNeg = 1 by decide)) ?_
  refine lv_aload_n hx hb dL_law_910 rfl (lv_at hl 3 rfl) ?_
  refine lv_iload_n hx hb dL_law_911 rfl (lv_at hl 0 rfl) ?_
  refine lv_iconst (v := 2) hx hb dL_law_912 (by decide) ?_
  refine lv_iadd hx hb dL_law_913 ?_
  refine r_val (v := 2) (by decide) ?_
  refine va_sld hx hb hX hbl hbA w.2.2.1 (vpi (by decide) (by decide)) dL_law_914 ?_
  refine r_val (v := xs 2) (congrArg xs (show (2 : Int32).toNatClampNeg = 2 by decide)) ?_
  refine x_Vi F w (As := [.int (xs 1), .int (xs 2)]) (rest := []) (a := 0) (by decide) (sh_11 rfl _ _) rfl (c_X11_done_329 h0) gv_L_111 hv_X11_done ⟨Nat.le_of_ble_eq_true rfl, Nat.le_of_ble_eq_true rfl⟩ hl.1 rfl (Nat.le_of_ble_eq_true rfl) ⟨Nat.le_of_ble_eq_true rfl, Nat.le_of_ble_eq_true rfl⟩ dL_law_915 (fun H locs w => ?_)
  refine lv_aload_n hx hb dL_law_918 rfl (lv_at hl 1 rfl) ?_
  refine lv_aload_n hx hb dL_law_919 rfl (lv_at hl 3 rfl) ?_
  refine lv_iload_n hx hb dL_law_920 rfl (lv_at hl 0 rfl) ?_
  refine lv_iconst (v := 1) hx hb dL_law_921 (by decide) ?_
  refine lv_iadd hx hb dL_law_922 ?_
  refine r_val (v := 1) (by decide) ?_
  refine va_sld hx hb hX hbl hbA w.2.2.1 (vpi (by decide) (by decide)) dL_law_923 ?_
  refine r_val (v := xs 1) (congrArg xs (show (1 : Int32).toNatClampNeg = 1 by decide)) ?_
  refine lv_aload_n hx hb dL_law_924 rfl (lv_at hl 3 rfl) ?_
  refine lv_iload_n hx hb dL_law_925 rfl (lv_at hl 0 rfl) ?_
  refine lv_iconst (v := 2) hx hb dL_law_926 (by decide) ?_
  refine lv_iadd hx hb dL_law_927 ?_
  refine r_val (v := 2) (by decide) ?_
  refine va_sld hx hb hX hbl hbA w.2.2.1 (vpi (by decide) (by decide)) dL_law_928 ?_
  refine r_val (v := xs 2) (congrArg xs (show (2 : Int32).toNatClampNeg = 2 by decide)) ?_
  refine x_Vi F w (As := [.int (xs 1), .int (xs 2)]) (rest := [.int (-1)]) (a := 146) (by decide) (sh_12 rfl _ _) rfl (c_X12_done_330 (rfl) h0) gv_L_114 hv_X12_done ⟨Nat.le_of_ble_eq_true rfl, Nat.le_of_ble_eq_true rfl⟩ hl.1 rfl (Nat.le_of_ble_eq_true rfl) ⟨Nat.le_of_ble_eq_true rfl, Nat.le_of_ble_eq_true rfl⟩ dL_law_929 (fun H locs w => ?_)
  refine lv_icmp_eq (tgt := 1065) hx hb dL_law_932 (by decide) (fun _ => ?_) (fun c1 => absurd c1 (by decide))
  exact kk _ _ _ w
set_option maxRecDepth 4000 in
theorem c_X11_done_331 {l : Launch} {D : va_G} {B : Nat} {cy : Nat → ClassId} {M : Mem} {p1 : Int32} {p2 : Int32} (h0 : ¬ p1 < 0) (h1 : M.1 22 2 = 0) (h2 : 0 ≤ p1) : Ci l D B cy yX11_done cX11_done 3 (some .int) 1 21 [.ref (B + 0), .int p1, .int p2] M (fun r M1 => r = (-1) ∧ M1 = M) := by
  refine s_any (by decide) (Nat.le_of_ble_eq_true rfl) ?_
  intro p e s m below meth c ls F hr hlocks w hl
  have F : CallFix p m c cX11_done 3 s _ TB RX11 := F
  have hx := F.1
  have hb := F.2.1
  have hl : lv_has ls 3 [(0, .ref (B + 0)), (1, .int p1), (2, .int p2)] := hl
  refine lv_aload_n hx hb dX11_done_0 rfl (lv_at hl 0 rfl) ?_
  refine f_11_3 F w (a := 0) rfl tb_73 dX11_done_1 ?_
  refine lv_iload_n hx hb dX11_done_4 rfl (lv_at hl 1 rfl) ?_
  refine x_Vi F w (As := [.int p1]) (rest := []) (a := 22) (by decide) (sh_0 rfl _ _) rfl (c_X0_hasRule_199 h0 (h1) h2) gv_X11_173 hv_X0_hasRule ⟨Nat.le_of_ble_eq_true rfl, Nat.le_of_ble_eq_true rfl⟩ hl.1 rfl (Nat.le_of_ble_eq_true rfl) ⟨Nat.zero_le _, Nat.zero_le _⟩ dX11_done_5 (fun H locs w => ?_)
  refine lv_if_eq (tgt := 20) hx hb dX11_done_8 (by decide) (fun _ => ?_) (fun c1 => absurd c1 (by decide))
  refine lv_iconst (v := (-1)) hx hb dX11_done_20 (by decide) ?_
  exact e_i F w hr hlocks ⟨rfl, rfl⟩ dX11_done_21
set_option maxRecDepth 4000 in
theorem c_X12_done_332 {l : Launch} {D : va_G} {B : Nat} {cy : Nat → ClassId} {M : Mem} {p1 : Int32} {p2 : Int32} (h0 : M.1 146 5 = 0) (h1 : ¬ p1 < 0) (h2 : (-1) < p1) : Ci l D B cy yX12_done cX12_done 4 (some .int) 2 43 [.ref (B + 146), .int p1, .int p2] M (fun r M1 => r = (-1) ∧ M1 = M) := by
  refine s_any (by decide) (Nat.le_of_ble_eq_true rfl) ?_
  intro p e s m below meth c ls F hr hlocks w hl
  have F : CallFix p m c cX12_done 4 s _ TB RX12 := F
  have hx := F.1
  have hb := F.2.1
  have hl : lv_has ls 4 [(0, .ref (B + 146)), (1, .int p1), (2, .int p2)] := hl
  refine lv_aload_n hx hb dX12_done_0 rfl (lv_at hl 0 rfl) ?_
  refine lv_iload_n hx hb dX12_done_1 rfl (lv_at hl 1 rfl) ?_
  refine x_Vi F w (As := [.int p1]) (rest := []) (a := 146) (by decide) (sh_12 rfl _ _) rfl (c_X12_isRule_201 (h0) h1 h2) gv_X12_249 hv_X12_isRule ⟨Nat.le_of_ble_eq_true rfl, Nat.le_of_ble_eq_true rfl⟩ hl.1 rfl (Nat.le_of_ble_eq_true rfl) ⟨Nat.zero_le _, Nat.zero_le _⟩ dX12_done_2 (fun H locs w => ?_)
  refine lv_if_eq (tgt := 17) hx hb dX12_done_5 (by decide) (fun _ => ?_) (fun c1 => absurd c1 (by decide))
  refine lv_iconst (v := (-1)) hx hb dX12_done_17 (by decide) ?_
  exact e_i F w hr hlocks ⟨rfl, rfl⟩ dX12_done_18
set_option maxRecDepth 8000 in
theorem la_22_82 {p : Program} {l : Launch} {e : Env} {s : State} {m : MethodId} {below : List Frame} {meth : Method} {c : Code} {D : va_G} {B b : Nat} {cy : Nat → ClassId} {H : Heap} {locs : List Loc} {ls : Array Slot} {xs : Nat → Int32} {Q : State → Prop} (F : CallFix p m c code 4 s #[Value.ref b] TB RL) (hX : va_X b 6 xs s s.heap) (hbl : b < s.heap.size) (hbA : ¬ B ≤ b) (w : Wd D B cy s s.heap M0 H locs) (hl : lv_has ls 4 [(3, .int 0), (2, .ref (B + 146)), (1, .ref (B + 0)), (0, .ref b)]) (h0 : ¬ (xs 1) < 0) (h1 : 0 ≤ (xs 1)) (h2 : (-1) < (xs 1)) (kk : ∀ (M1 : Mem) (H1 : Heap) (locs1 : List Loc), Wd D B cy s s.heap M1 H1 locs1 → W p l e room_1 s m #[Value.ref b] below meth c H1 locs1 159 13107 Q (F0 m 1065 ls [])) : W p l e room_1 s m #[Value.ref b] below meth c H locs 159 13107 Q (F0 m 904 ls []) := by
  have hx := F.1
  have hb := F.2.1
  refine lv_aload_n hx hb dL_law_904 rfl (lv_at hl 2 rfl) ?_
  refine lv_aload_n hx hb dL_law_905 rfl (lv_at hl 3 rfl) ?_
  refine lv_iload_n hx hb dL_law_906 rfl (lv_at hl 0 rfl) ?_
  refine lv_iconst (v := 1) hx hb dL_law_907 (by decide) ?_
  refine lv_iadd hx hb dL_law_908 ?_
  refine r_val (v := 1) (by decide) ?_
  refine va_sld hx hb hX hbl hbA w.2.2.1 (vpi (by decide) (by decide)) dL_law_909 ?_
  refine r_val (v := xs 1) (congrArg xs (show (1 : Int32).toNatClampNeg = 1 by decide)) ?_
  refine lv_aload_n hx hb dL_law_910 rfl (lv_at hl 3 rfl) ?_
  refine lv_iload_n hx hb dL_law_911 rfl (lv_at hl 0 rfl) ?_
  refine lv_iconst (v := 2) hx hb dL_law_912 (by decide) ?_
  refine lv_iadd hx hb dL_law_913 ?_
  refine r_val (v := 2) (by decide) ?_
  refine va_sld hx hb hX hbl hbA w.2.2.1 (vpi (by decide) (by decide)) dL_law_914 ?_
  refine r_val (v := xs 2) (congrArg xs (show (2 : Int32).toNatClampNeg = 2 by decide)) ?_
  refine x_Vi F w (As := [.int (xs 1), .int (xs 2)]) (rest := []) (a := 0) (by decide) (sh_11 rfl _ _) rfl (c_X11_done_331 h0 (rfl) h1) gv_L_111 hv_X11_done ⟨Nat.le_of_ble_eq_true rfl, Nat.le_of_ble_eq_true rfl⟩ hl.1 rfl (Nat.le_of_ble_eq_true rfl) ⟨Nat.le_of_ble_eq_true rfl, Nat.le_of_ble_eq_true rfl⟩ dL_law_915 (fun H locs w => ?_)
  refine lv_aload_n hx hb dL_law_918 rfl (lv_at hl 1 rfl) ?_
  refine lv_aload_n hx hb dL_law_919 rfl (lv_at hl 3 rfl) ?_
  refine lv_iload_n hx hb dL_law_920 rfl (lv_at hl 0 rfl) ?_
  refine lv_iconst (v := 1) hx hb dL_law_921 (by decide) ?_
  refine lv_iadd hx hb dL_law_922 ?_
  refine r_val (v := 1) (by decide) ?_
  refine va_sld hx hb hX hbl hbA w.2.2.1 (vpi (by decide) (by decide)) dL_law_923 ?_
  refine r_val (v := xs 1) (congrArg xs (show (1 : Int32).toNatClampNeg = 1 by decide)) ?_
  refine lv_aload_n hx hb dL_law_924 rfl (lv_at hl 3 rfl) ?_
  refine lv_iload_n hx hb dL_law_925 rfl (lv_at hl 0 rfl) ?_
  refine lv_iconst (v := 2) hx hb dL_law_926 (by decide) ?_
  refine lv_iadd hx hb dL_law_927 ?_
  refine r_val (v := 2) (by decide) ?_
  refine va_sld hx hb hX hbl hbA w.2.2.1 (vpi (by decide) (by decide)) dL_law_928 ?_
  refine r_val (v := xs 2) (congrArg xs (show (2 : Int32).toNatClampNeg = 2 by decide)) ?_
  refine x_Vi F w (As := [.int (xs 1), .int (xs 2)]) (rest := [.int (-1)]) (a := 146) (by decide) (sh_12 rfl _ _) rfl (c_X12_done_332 (rfl) h0 h2) gv_L_114 hv_X12_done ⟨Nat.le_of_ble_eq_true rfl, Nat.le_of_ble_eq_true rfl⟩ hl.1 rfl (Nat.le_of_ble_eq_true rfl) ⟨Nat.le_of_ble_eq_true rfl, Nat.le_of_ble_eq_true rfl⟩ dL_law_929 (fun H locs w => ?_)
  refine lv_icmp_eq (tgt := 1065) hx hb dL_law_932 (by decide) (fun _ => ?_) (fun c1 => absurd c1 (by decide))
  exact kk _ _ _ w
set_option maxRecDepth 8000 in
theorem lc_22 {p : Program} {l : Launch} {e : Env} {s : State} {m : MethodId} {below : List Frame} {meth : Method} {c : Code} {D : va_G} {B b : Nat} {cy : Nat → ClassId} {H : Heap} {locs : List Loc} {ls : Array Slot} {xs : Nat → Int32} {Q : State → Prop} (F : CallFix p m c code 4 s #[Value.ref b] TB RL) (hX : va_X b 6 xs s s.heap) (hbl : b < s.heap.size) (hbA : ¬ B ≤ b) (w : Wd D B cy s s.heap M0 H locs) (hl : lv_has ls 4 [(3, .int 0), (2, .ref (B + 146)), (1, .ref (B + 0)), (0, .ref b)]) (kk : ∀ (M1 : Mem) (H1 : Heap) (locs1 : List Loc), Wd D B cy s s.heap M1 H1 locs1 → W p l e room_1 s m #[Value.ref b] below meth c H1 locs1 159 13107 Q (F0 m 1065 ls [])) : W p l e room_1 s m #[Value.ref b] below meth c H locs 159 13107 Q (F0 m 904 ls []) := by
  rcases (show (xs 1).toInt < 0 ∨ 0 ≤ (xs 1).toInt by omega) with h1 | h1
  · skip
    exact la_22_81 F hX hbl hbA w hl (by rw [Int32.lt_iff_toInt_lt, show (0 : Int32).toInt = 0 from by decide]; omega) kk
  · skip
    exact la_22_82 F hX hbl hbA w hl (by rw [Int32.lt_iff_toInt_lt, show (0 : Int32).toInt = 0 from by decide]; omega) (by rw [Int32.le_iff_toInt_le, show (0 : Int32).toInt = 0 from by decide]; omega) (by rw [Int32.lt_iff_toInt_lt, show (-1 : Int32).toInt = -1 from by decide]; omega) kk
theorem dL_law_937 : decode cL_law 937 = .ok (.aload_n 1, 1) := by decide +kernel
theorem dL_law_938 : decode cL_law 938 = .ok (.aload_n 0, 1) := by decide +kernel
theorem dL_law_939 : decode cL_law 939 = .ok (.iload_n 3, 1) := by decide +kernel
theorem dL_law_940 : decode cL_law 940 = .ok (.iconst 1, 1) := by decide +kernel
theorem dL_law_941 : decode cL_law 941 = .ok (.iadd, 1) := by decide +kernel
theorem dL_law_942 : decode cL_law 942 = .ok (.iaload, 1) := by decide +kernel
theorem dL_law_943 : decode cL_law 943 = .ok (.invokevirtual 115, 3) := by decide +kernel
theorem dX11_exchanged_0 : decode cX11_exchanged 0 = .ok (.aload_n 0, 1) := by decide +kernel
theorem dX11_exchanged_1 : decode cX11_exchanged 1 = .ok (.getfield 35, 3) := by decide +kernel
theorem dX11_exchanged_4 : decode cX11_exchanged 4 = .ok (.iload_n 1, 1) := by decide +kernel
theorem dX11_exchanged_5 : decode cX11_exchanged 5 = .ok (.invokevirtual 173, 3) := by decide +kernel
theorem dX11_exchanged_8 : decode cX11_exchanged 8 = .ok (.ifCond .eq 16, 3) := by decide +kernel
theorem dX11_exchanged_24 : decode cX11_exchanged 24 = .ok (.iconst (-1), 1) := by decide +kernel
theorem dX11_exchanged_25 : decode cX11_exchanged 25 = .ok (.ireturn, 1) := by decide +kernel
set_option maxRecDepth 4000 in
theorem c_X11_exchanged_333 {l : Launch} {D : va_G} {B : Nat} {cy : Nat → ClassId} {M : Mem} {p1 : Int32} (h0 : p1 < 0) : Ci l D B cy yX11_exchanged cX11_exchanged 2 (some .int) 1 21 [.ref (B + 0), .int p1] M (fun r M1 => r = (-1) ∧ M1 = M) := by
  refine s_any (by decide) (Nat.le_of_ble_eq_true rfl) ?_
  intro p e s m below meth c ls F hr hlocks w hl
  have F : CallFix p m c cX11_exchanged 2 s _ TB RX11 := F
  have hx := F.1
  have hb := F.2.1
  have hl : lv_has ls 2 [(0, .ref (B + 0)), (1, .int p1)] := hl
  refine lv_aload_n hx hb dX11_exchanged_0 rfl (lv_at hl 0 rfl) ?_
  refine f_11_3 F w (a := 0) rfl tb_73 dX11_exchanged_1 ?_
  refine lv_iload_n hx hb dX11_exchanged_4 rfl (lv_at hl 1 rfl) ?_
  refine x_Vi F w (As := [.int p1]) (rest := []) (a := 22) (by decide) (sh_0 rfl _ _) rfl (c_X0_hasRule_195 h0) gv_X11_173 hv_X0_hasRule ⟨Nat.le_of_ble_eq_true rfl, Nat.le_of_ble_eq_true rfl⟩ hl.1 rfl (Nat.le_of_ble_eq_true rfl) ⟨Nat.zero_le _, Nat.zero_le _⟩ dX11_exchanged_5 (fun H locs w => ?_)
  refine lv_if_eq (tgt := 24) hx hb dX11_exchanged_8 (by decide) (fun _ => ?_) (fun c1 => absurd c1 (by decide))
  refine lv_iconst (v := (-1)) hx hb dX11_exchanged_24 (by decide) ?_
  exact e_i F w hr hlocks ⟨rfl, rfl⟩ dX11_exchanged_25
theorem tk_X11_exchanged : Cond.code yX11_exchanged cX11_exchanged 2 (some .int) ∈ TB := tbm (tc4 (List.mem_of_getElem? (i := 213) rfl)) rfl
theorem gc_X11_exchanged : GoodIn TB (cw yX11_exchanged cX11_exchanged 2 (some .int)) := goodIn_c2 tk_X11_exchanged
theorem tb_496 : Cond.methodLink "ToneLinesLaw" 115 yX11_exchanged ∈ TB := tbm (tc4 (List.mem_of_getElem? (i := 210) rfl)) rfl
theorem tb_497 : Cond.instanceMethod yX11_exchanged ∈ TB := tbm (tc4 (List.mem_of_getElem? (i := 211) rfl)) rfl
theorem tb_498 : Cond.selects "ToneLines" yX11_exchanged yX11_exchanged ∈ TB := tbm (tc4 (List.mem_of_getElem? (i := 212) rfl)) rfl
theorem gv_L_115 : GoodIn TB (wsV RL 115 RX11 yX11_exchanged (cw yX11_exchanged cX11_exchanged 2 (some .int))) := goodIn_4 tb_496 tb_497 tb_498 tb_145 gc_X11_exchanged
theorem hv_X11_exchanged : yX11_exchanged.cls = RX11 ∧ yX11_exchanged.cls ≠ "java/lang/invoke/MethodHandle" ∧ yX11_exchanged.cls ≠ "java/lang/invoke/VarHandle" ∧ (parseMethodDescriptor yX11_exchanged.desc).map (fun d => d.parameters.length) = some 1 := by decide +kernel
theorem dL_law_946 : decode cL_law 946 = .ok (.aload_n 2, 1) := by decide +kernel
theorem dL_law_947 : decode cL_law 947 = .ok (.aload_n 0, 1) := by decide +kernel
theorem dL_law_948 : decode cL_law 948 = .ok (.iload_n 3, 1) := by decide +kernel
theorem dL_law_949 : decode cL_law 949 = .ok (.iconst 1, 1) := by decide +kernel
theorem dL_law_950 : decode cL_law 950 = .ok (.iadd, 1) := by decide +kernel
theorem dL_law_951 : decode cL_law 951 = .ok (.iaload, 1) := by decide +kernel
theorem dL_law_952 : decode cL_law 952 = .ok (.invokevirtual 118, 3) := by decide +kernel
theorem dX12_exchanged_0 : decode cX12_exchanged 0 = .ok (.iload_n 1, 1) := by decide +kernel
theorem dX12_exchanged_1 : decode cX12_exchanged 1 = .ok (.iconst 0, 1) := by decide +kernel
theorem dX12_exchanged_2 : decode cX12_exchanged 2 = .ok (.aload_n 0, 1) := by decide +kernel
theorem dX12_exchanged_3 : decode cX12_exchanged 3 = .ok (.getfield 239, 3) := by decide +kernel
theorem dX12_exchanged_6 : decode cX12_exchanged 6 = .ok (.iconst 2, 1) := by decide +kernel
theorem dX12_exchanged_7 : decode cX12_exchanged 7 = .ok (.isub, 1) := by decide +kernel
theorem dX12_exchanged_8 : decode cX12_exchanged 8 = .ok (.invokestatic 55, 3) := by decide +kernel
set_option maxRecDepth 4000 in
theorem c_X12_in_334 {l : Launch} {D : va_G} {B : Nat} {cy : Nat → ClassId} {M : Mem} {p0 : Int32} (h0 : p0 < 0) : Ci l D B cy yX12_in cX12_in 3 (some .boolean) 0 0 [.int p0, .int 0, .int (-2)] M (fun r M1 => r = 0 ∧ M1 = M) := by
  refine s_any (by decide) (Nat.le_of_ble_eq_true rfl) ?_
  intro p e s m below meth c ls F hr hlocks w hl
  have F : CallFix p m c cX12_in 3 s _ TB RX12 := F
  have hx := F.1
  have hb := F.2.1
  have hl : lv_has ls 3 [(0, .int p0), (1, .int 0), (2, .int (-2))] := hl
  refine lv_iload_n hx hb dX12_in_0 rfl (lv_at hl 0 rfl) ?_
  refine lv_iload_n hx hb dX12_in_1 rfl (lv_at hl 1 rfl) ?_
  refine lv_icmp_lt (tgt := 14) hx hb dX12_in_2 (by decide) (fun _ => ?_) (fun c1 => absurd h0 c1)
  refine lv_iconst (v := 0) hx hb dX12_in_14 (by decide) ?_
  exact e_z F w hr hlocks (by decide) ⟨rfl, rfl⟩ dX12_in_15
theorem dX12_exchanged_11 : decode cX12_exchanged 11 = .ok (.ifCond .ne 5, 3) := by decide +kernel
theorem dX12_exchanged_14 : decode cX12_exchanged 14 = .ok (.iconst (-1), 1) := by decide +kernel
theorem dX12_exchanged_15 : decode cX12_exchanged 15 = .ok (.ireturn, 1) := by decide +kernel
set_option maxRecDepth 4000 in
theorem c_X12_exchanged_335 {l : Launch} {D : va_G} {B : Nat} {cy : Nat → ClassId} {M : Mem} {p1 : Int32} (h0 : M.1 146 5 = 0) (h1 : p1 < 0) : Ci l D B cy yX12_exchanged cX12_exchanged 3 (some .int) 1 22 [.ref (B + 146), .int p1] M (fun r M1 => r = (-1) ∧ M1 = M) := by
  refine s_any (by decide) (Nat.le_of_ble_eq_true rfl) ?_
  intro p e s m below meth c ls F hr hlocks w hl
  have F : CallFix p m c cX12_exchanged 3 s _ TB RX12 := F
  have hx := F.1
  have hb := F.2.1
  have hl : lv_has ls 3 [(0, .ref (B + 146)), (1, .int p1)] := hl
  refine lv_iload_n hx hb dX12_exchanged_0 rfl (lv_at hl 1 rfl) ?_
  refine lv_iconst (v := 0) hx hb dX12_exchanged_1 (by decide) ?_
  refine lv_aload_n hx hb dX12_exchanged_2 rfl (lv_at hl 0 rfl) ?_
  refine f_12_5 F w (a := 146) rfl tb_227 dX12_exchanged_3 ?_
  refine r_val (v := 0) (h0) ?_
  refine lv_iconst (v := 2) hx hb dX12_exchanged_6 (by decide) ?_
  refine lv_isub hx hb dX12_exchanged_7 ?_
  refine r_val (v := (-2)) (by decide) ?_
  refine x_Si F w (As := [.int p1, .int 0, .int (-2)]) (rest := []) (c_X12_in_334 h1) gs_X12_55 hs_X12_in ⟨Nat.le_of_ble_eq_true rfl, Nat.le_of_ble_eq_true rfl⟩ hl.1 rfl (Nat.le_of_ble_eq_true rfl) ⟨Nat.zero_le _, Nat.zero_le _⟩ dX12_exchanged_8 (fun H locs w => ?_)
  refine lv_if_ne (tgt := 16) hx hb dX12_exchanged_11 (by decide) (fun c1 => absurd c1 (by decide)) (fun _ => ?_)
  refine lv_iconst (v := (-1)) hx hb dX12_exchanged_14 (by decide) ?_
  exact e_i F w hr hlocks ⟨rfl, rfl⟩ dX12_exchanged_15
theorem tk_X12_exchanged : Cond.code yX12_exchanged cX12_exchanged 3 (some .int) ∈ TB := tbm (tc6 (List.mem_of_getElem? (i := 236) rfl)) rfl
theorem gc_X12_exchanged : GoodIn TB (cw yX12_exchanged cX12_exchanged 3 (some .int)) := goodIn_c2 tk_X12_exchanged
theorem tb_499 : Cond.methodLink "ToneLinesLaw" 118 yX12_exchanged ∈ TB := tbm (tc6 (List.mem_of_getElem? (i := 233) rfl)) rfl
theorem tb_500 : Cond.instanceMethod yX12_exchanged ∈ TB := tbm (tc6 (List.mem_of_getElem? (i := 234) rfl)) rfl
theorem tb_501 : Cond.selects "ToneLinesModel" yX12_exchanged yX12_exchanged ∈ TB := tbm (tc6 (List.mem_of_getElem? (i := 235) rfl)) rfl
theorem gv_L_118 : GoodIn TB (wsV RL 118 RX12 yX12_exchanged (cw yX12_exchanged cX12_exchanged 3 (some .int))) := goodIn_4 tb_499 tb_500 tb_501 tb_150 gc_X12_exchanged
theorem hv_X12_exchanged : yX12_exchanged.cls = RX12 ∧ yX12_exchanged.cls ≠ "java/lang/invoke/MethodHandle" ∧ yX12_exchanged.cls ≠ "java/lang/invoke/VarHandle" ∧ (parseMethodDescriptor yX12_exchanged.desc).map (fun d => d.parameters.length) = some 1 := by decide +kernel
theorem dL_law_955 : decode cL_law 955 = .ok (.if_icmp .eq 110, 3) := by decide +kernel
set_option maxRecDepth 8000 in
theorem la_23_83 {p : Program} {l : Launch} {e : Env} {s : State} {m : MethodId} {below : List Frame} {meth : Method} {c : Code} {D : va_G} {B b : Nat} {cy : Nat → ClassId} {H : Heap} {locs : List Loc} {ls : Array Slot} {xs : Nat → Int32} {Q : State → Prop} (F : CallFix p m c code 4 s #[Value.ref b] TB RL) (hX : va_X b 6 xs s s.heap) (hbl : b < s.heap.size) (hbA : ¬ B ≤ b) (w : Wd D B cy s s.heap M0 H locs) (hl : lv_has ls 4 [(3, .int 0), (2, .ref (B + 146)), (1, .ref (B + 0)), (0, .ref b)]) (h0 : (xs 1) < 0) (kk : ∀ (M1 : Mem) (H1 : Heap) (locs1 : List Loc), Wd D B cy s s.heap M1 H1 locs1 → W p l e room_1 s m #[Value.ref b] below meth c H1 locs1 159 13107 Q (F0 m 1065 ls [])) : W p l e room_1 s m #[Value.ref b] below meth c H locs 159 13107 Q (F0 m 937 ls []) := by
  have hx := F.1
  have hb := F.2.1
  refine lv_aload_n hx hb dL_law_937 rfl (lv_at hl 2 rfl) ?_
  refine lv_aload_n hx hb dL_law_938 rfl (lv_at hl 3 rfl) ?_
  refine lv_iload_n hx hb dL_law_939 rfl (lv_at hl 0 rfl) ?_
  refine lv_iconst (v := 1) hx hb dL_law_940 (by decide) ?_
  refine lv_iadd hx hb dL_law_941 ?_
  refine r_val (v := 1) (by decide) ?_
  refine va_sld hx hb hX hbl hbA w.2.2.1 (vpi (by decide) (by decide)) dL_law_942 ?_
  refine r_val (v := xs 1) (congrArg xs (show (1 : Int32).toNatClampNeg = 1 by decide)) ?_
  refine x_Vi F w (As := [.int (xs 1)]) (rest := []) (a := 0) (by decide) (sh_11 rfl _ _) rfl (c_X11_exchanged_333 h0) gv_L_115 hv_X11_exchanged ⟨Nat.le_of_ble_eq_true rfl, Nat.le_of_ble_eq_true rfl⟩ hl.1 rfl (Nat.le_of_ble_eq_true rfl) ⟨Nat.le_of_ble_eq_true rfl, Nat.le_of_ble_eq_true rfl⟩ dL_law_943 (fun H locs w => ?_)
  refine lv_aload_n hx hb dL_law_946 rfl (lv_at hl 1 rfl) ?_
  refine lv_aload_n hx hb dL_law_947 rfl (lv_at hl 3 rfl) ?_
  refine lv_iload_n hx hb dL_law_948 rfl (lv_at hl 0 rfl) ?_
  refine lv_iconst (v := 1) hx hb dL_law_949 (by decide) ?_
  refine lv_iadd hx hb dL_law_950 ?_
  refine r_val (v := 1) (by decide) ?_
  refine va_sld hx hb hX hbl hbA w.2.2.1 (vpi (by decide) (by decide)) dL_law_951 ?_
  refine r_val (v := xs 1) (congrArg xs (show (1 : Int32).toNatClampNeg = 1 by decide)) ?_
  refine x_Vi F w (As := [.int (xs 1)]) (rest := [.int (-1)]) (a := 146) (by decide) (sh_12 rfl _ _) rfl (c_X12_exchanged_335 (rfl) h0) gv_L_118 hv_X12_exchanged ⟨Nat.le_of_ble_eq_true rfl, Nat.le_of_ble_eq_true rfl⟩ hl.1 rfl (Nat.le_of_ble_eq_true rfl) ⟨Nat.le_of_ble_eq_true rfl, Nat.le_of_ble_eq_true rfl⟩ dL_law_952 (fun H locs w => ?_)
  refine lv_icmp_eq (tgt := 1065) hx hb dL_law_955 (by decide) (fun _ => ?_) (fun c1 => absurd c1 (by decide))
  exact kk _ _ _ w
set_option maxRecDepth 4000 in
theorem c_X11_exchanged_336 {l : Launch} {D : va_G} {B : Nat} {cy : Nat → ClassId} {M : Mem} {p1 : Int32} (h0 : ¬ p1 < 0) (h1 : M.1 22 2 = 0) (h2 : 0 ≤ p1) : Ci l D B cy yX11_exchanged cX11_exchanged 2 (some .int) 1 21 [.ref (B + 0), .int p1] M (fun r M1 => r = (-1) ∧ M1 = M) := by
  refine s_any (by decide) (Nat.le_of_ble_eq_true rfl) ?_
  intro p e s m below meth c ls F hr hlocks w hl
  have F : CallFix p m c cX11_exchanged 2 s _ TB RX11 := F
  have hx := F.1
  have hb := F.2.1
  have hl : lv_has ls 2 [(0, .ref (B + 0)), (1, .int p1)] := hl
  refine lv_aload_n hx hb dX11_exchanged_0 rfl (lv_at hl 0 rfl) ?_
  refine f_11_3 F w (a := 0) rfl tb_73 dX11_exchanged_1 ?_
  refine lv_iload_n hx hb dX11_exchanged_4 rfl (lv_at hl 1 rfl) ?_
  refine x_Vi F w (As := [.int p1]) (rest := []) (a := 22) (by decide) (sh_0 rfl _ _) rfl (c_X0_hasRule_199 h0 (h1) h2) gv_X11_173 hv_X0_hasRule ⟨Nat.le_of_ble_eq_true rfl, Nat.le_of_ble_eq_true rfl⟩ hl.1 rfl (Nat.le_of_ble_eq_true rfl) ⟨Nat.zero_le _, Nat.zero_le _⟩ dX11_exchanged_5 (fun H locs w => ?_)
  refine lv_if_eq (tgt := 24) hx hb dX11_exchanged_8 (by decide) (fun _ => ?_) (fun c1 => absurd c1 (by decide))
  refine lv_iconst (v := (-1)) hx hb dX11_exchanged_24 (by decide) ?_
  exact e_i F w hr hlocks ⟨rfl, rfl⟩ dX11_exchanged_25
set_option maxRecDepth 4000 in
theorem c_X12_in_337 {l : Launch} {D : va_G} {B : Nat} {cy : Nat → ClassId} {M : Mem} {p0 : Int32} (h0 : ¬ p0 < 0) (h1 : (-2) < p0) : Ci l D B cy yX12_in cX12_in 3 (some .boolean) 0 0 [.int p0, .int 0, .int (-2)] M (fun r M1 => r = 0 ∧ M1 = M) := by
  refine s_any (by decide) (Nat.le_of_ble_eq_true rfl) ?_
  intro p e s m below meth c ls F hr hlocks w hl
  have F : CallFix p m c cX12_in 3 s _ TB RX12 := F
  have hx := F.1
  have hb := F.2.1
  have hl : lv_has ls 3 [(0, .int p0), (1, .int 0), (2, .int (-2))] := hl
  refine lv_iload_n hx hb dX12_in_0 rfl (lv_at hl 0 rfl) ?_
  refine lv_iload_n hx hb dX12_in_1 rfl (lv_at hl 1 rfl) ?_
  refine lv_icmp_lt (tgt := 14) hx hb dX12_in_2 (by decide) (fun c1 => absurd c1 h0) (fun _ => ?_)
  refine lv_iload_n hx hb dX12_in_5 rfl (lv_at hl 0 rfl) ?_
  refine lv_iload_n hx hb dX12_in_6 rfl (lv_at hl 2 rfl) ?_
  refine lv_icmp_gt (tgt := 14) hx hb dX12_in_7 (by decide) (fun _ => ?_) (fun c1 => absurd h1 c1)
  refine lv_iconst (v := 0) hx hb dX12_in_14 (by decide) ?_
  exact e_z F w hr hlocks (by decide) ⟨rfl, rfl⟩ dX12_in_15
set_option maxRecDepth 4000 in
theorem c_X12_exchanged_338 {l : Launch} {D : va_G} {B : Nat} {cy : Nat → ClassId} {M : Mem} {p1 : Int32} (h0 : M.1 146 5 = 0) (h1 : ¬ p1 < 0) (h2 : (-2) < p1) : Ci l D B cy yX12_exchanged cX12_exchanged 3 (some .int) 1 22 [.ref (B + 146), .int p1] M (fun r M1 => r = (-1) ∧ M1 = M) := by
  refine s_any (by decide) (Nat.le_of_ble_eq_true rfl) ?_
  intro p e s m below meth c ls F hr hlocks w hl
  have F : CallFix p m c cX12_exchanged 3 s _ TB RX12 := F
  have hx := F.1
  have hb := F.2.1
  have hl : lv_has ls 3 [(0, .ref (B + 146)), (1, .int p1)] := hl
  refine lv_iload_n hx hb dX12_exchanged_0 rfl (lv_at hl 1 rfl) ?_
  refine lv_iconst (v := 0) hx hb dX12_exchanged_1 (by decide) ?_
  refine lv_aload_n hx hb dX12_exchanged_2 rfl (lv_at hl 0 rfl) ?_
  refine f_12_5 F w (a := 146) rfl tb_227 dX12_exchanged_3 ?_
  refine r_val (v := 0) (h0) ?_
  refine lv_iconst (v := 2) hx hb dX12_exchanged_6 (by decide) ?_
  refine lv_isub hx hb dX12_exchanged_7 ?_
  refine r_val (v := (-2)) (by decide) ?_
  refine x_Si F w (As := [.int p1, .int 0, .int (-2)]) (rest := []) (c_X12_in_337 h1 h2) gs_X12_55 hs_X12_in ⟨Nat.le_of_ble_eq_true rfl, Nat.le_of_ble_eq_true rfl⟩ hl.1 rfl (Nat.le_of_ble_eq_true rfl) ⟨Nat.zero_le _, Nat.zero_le _⟩ dX12_exchanged_8 (fun H locs w => ?_)
  refine lv_if_ne (tgt := 16) hx hb dX12_exchanged_11 (by decide) (fun c1 => absurd c1 (by decide)) (fun _ => ?_)
  refine lv_iconst (v := (-1)) hx hb dX12_exchanged_14 (by decide) ?_
  exact e_i F w hr hlocks ⟨rfl, rfl⟩ dX12_exchanged_15
set_option maxRecDepth 8000 in
theorem la_23_84 {p : Program} {l : Launch} {e : Env} {s : State} {m : MethodId} {below : List Frame} {meth : Method} {c : Code} {D : va_G} {B b : Nat} {cy : Nat → ClassId} {H : Heap} {locs : List Loc} {ls : Array Slot} {xs : Nat → Int32} {Q : State → Prop} (F : CallFix p m c code 4 s #[Value.ref b] TB RL) (hX : va_X b 6 xs s s.heap) (hbl : b < s.heap.size) (hbA : ¬ B ≤ b) (w : Wd D B cy s s.heap M0 H locs) (hl : lv_has ls 4 [(3, .int 0), (2, .ref (B + 146)), (1, .ref (B + 0)), (0, .ref b)]) (h0 : ¬ (xs 1) < 0) (h1 : 0 ≤ (xs 1)) (h2 : (-2) < (xs 1)) (kk : ∀ (M1 : Mem) (H1 : Heap) (locs1 : List Loc), Wd D B cy s s.heap M1 H1 locs1 → W p l e room_1 s m #[Value.ref b] below meth c H1 locs1 159 13107 Q (F0 m 1065 ls [])) : W p l e room_1 s m #[Value.ref b] below meth c H locs 159 13107 Q (F0 m 937 ls []) := by
  have hx := F.1
  have hb := F.2.1
  refine lv_aload_n hx hb dL_law_937 rfl (lv_at hl 2 rfl) ?_
  refine lv_aload_n hx hb dL_law_938 rfl (lv_at hl 3 rfl) ?_
  refine lv_iload_n hx hb dL_law_939 rfl (lv_at hl 0 rfl) ?_
  refine lv_iconst (v := 1) hx hb dL_law_940 (by decide) ?_
  refine lv_iadd hx hb dL_law_941 ?_
  refine r_val (v := 1) (by decide) ?_
  refine va_sld hx hb hX hbl hbA w.2.2.1 (vpi (by decide) (by decide)) dL_law_942 ?_
  refine r_val (v := xs 1) (congrArg xs (show (1 : Int32).toNatClampNeg = 1 by decide)) ?_
  refine x_Vi F w (As := [.int (xs 1)]) (rest := []) (a := 0) (by decide) (sh_11 rfl _ _) rfl (c_X11_exchanged_336 h0 (rfl) h1) gv_L_115 hv_X11_exchanged ⟨Nat.le_of_ble_eq_true rfl, Nat.le_of_ble_eq_true rfl⟩ hl.1 rfl (Nat.le_of_ble_eq_true rfl) ⟨Nat.le_of_ble_eq_true rfl, Nat.le_of_ble_eq_true rfl⟩ dL_law_943 (fun H locs w => ?_)
  refine lv_aload_n hx hb dL_law_946 rfl (lv_at hl 1 rfl) ?_
  refine lv_aload_n hx hb dL_law_947 rfl (lv_at hl 3 rfl) ?_
  refine lv_iload_n hx hb dL_law_948 rfl (lv_at hl 0 rfl) ?_
  refine lv_iconst (v := 1) hx hb dL_law_949 (by decide) ?_
  refine lv_iadd hx hb dL_law_950 ?_
  refine r_val (v := 1) (by decide) ?_
  refine va_sld hx hb hX hbl hbA w.2.2.1 (vpi (by decide) (by decide)) dL_law_951 ?_
  refine r_val (v := xs 1) (congrArg xs (show (1 : Int32).toNatClampNeg = 1 by decide)) ?_
  refine x_Vi F w (As := [.int (xs 1)]) (rest := [.int (-1)]) (a := 146) (by decide) (sh_12 rfl _ _) rfl (c_X12_exchanged_338 (rfl) h0 h2) gv_L_118 hv_X12_exchanged ⟨Nat.le_of_ble_eq_true rfl, Nat.le_of_ble_eq_true rfl⟩ hl.1 rfl (Nat.le_of_ble_eq_true rfl) ⟨Nat.le_of_ble_eq_true rfl, Nat.le_of_ble_eq_true rfl⟩ dL_law_952 (fun H locs w => ?_)
  refine lv_icmp_eq (tgt := 1065) hx hb dL_law_955 (by decide) (fun _ => ?_) (fun c1 => absurd c1 (by decide))
  exact kk _ _ _ w
set_option maxRecDepth 8000 in
theorem lc_23 {p : Program} {l : Launch} {e : Env} {s : State} {m : MethodId} {below : List Frame} {meth : Method} {c : Code} {D : va_G} {B b : Nat} {cy : Nat → ClassId} {H : Heap} {locs : List Loc} {ls : Array Slot} {xs : Nat → Int32} {Q : State → Prop} (F : CallFix p m c code 4 s #[Value.ref b] TB RL) (hX : va_X b 6 xs s s.heap) (hbl : b < s.heap.size) (hbA : ¬ B ≤ b) (w : Wd D B cy s s.heap M0 H locs) (hl : lv_has ls 4 [(3, .int 0), (2, .ref (B + 146)), (1, .ref (B + 0)), (0, .ref b)]) (kk : ∀ (M1 : Mem) (H1 : Heap) (locs1 : List Loc), Wd D B cy s s.heap M1 H1 locs1 → W p l e room_1 s m #[Value.ref b] below meth c H1 locs1 159 13107 Q (F0 m 1065 ls [])) : W p l e room_1 s m #[Value.ref b] below meth c H locs 159 13107 Q (F0 m 937 ls []) := by
  rcases (show (xs 1).toInt < 0 ∨ 0 ≤ (xs 1).toInt by omega) with h1 | h1
  · skip
    exact la_23_83 F hX hbl hbA w hl (by rw [Int32.lt_iff_toInt_lt, show (0 : Int32).toInt = 0 from by decide]; omega) kk
  · skip
    exact la_23_84 F hX hbl hbA w hl (by rw [Int32.lt_iff_toInt_lt, show (0 : Int32).toInt = 0 from by decide]; omega) (by rw [Int32.le_iff_toInt_le, show (0 : Int32).toInt = 0 from by decide]; omega) (by rw [Int32.lt_iff_toInt_lt, show (-2 : Int32).toInt = -2 from by decide]; omega) kk
theorem dL_law_960 : decode cL_law 960 = .ok (.aload_n 1, 1) := by decide +kernel
theorem dL_law_961 : decode cL_law 961 = .ok (.invokevirtual 119, 3) := by decide +kernel
theorem dX11_needed_0 : decode cX11_needed 0 = .ok (.iconst 0, 1) := by decide +kernel
theorem dX11_needed_1 : decode cX11_needed 1 = .ok (.istore_n 1, 1) := by decide +kernel
theorem dX11_needed_2 : decode cX11_needed 2 = .ok (.aload_n 0, 1) := by decide +kernel
theorem dX11_needed_3 : decode cX11_needed 3 = .ok (.getfield 35, 3) := by decide +kernel
theorem dX11_needed_6 : decode cX11_needed 6 = .ok (.aload_n 0, 1) := by decide +kernel
theorem dX11_needed_7 : decode cX11_needed 7 = .ok (.getfield 35, 3) := by decide +kernel
theorem dX11_needed_10 : decode cX11_needed 10 = .ok (.getfield 118, 3) := by decide +kernel
theorem dX11_needed_13 : decode cX11_needed 13 = .ok (.invokevirtual 196, 3) := by decide +kernel
theorem dX11_needed_16 : decode cX11_needed 16 = .ok (.astore_n 2, 1) := by decide +kernel
theorem dX11_needed_17 : decode cX11_needed 17 = .ok (.iconst 0, 1) := by decide +kernel
theorem dX11_needed_18 : decode cX11_needed 18 = .ok (.istore_n 3, 1) := by decide +kernel
theorem dX11_needed_19 : decode cX11_needed 19 = .ok (.iload_n 3, 1) := by decide +kernel
theorem dX11_needed_20 : decode cX11_needed 20 = .ok (.aload_n 0, 1) := by decide +kernel
theorem dX11_needed_21 : decode cX11_needed 21 = .ok (.getfield 35, 3) := by decide +kernel
theorem dX11_needed_24 : decode cX11_needed 24 = .ok (.getfield 118, 3) := by decide +kernel
theorem dX11_needed_27 : decode cX11_needed 27 = .ok (.if_icmp .ge 55, 3) := by decide +kernel
theorem dX11_needed_82 : decode cX11_needed 82 = .ok (.iload_n 1, 1) := by decide +kernel
theorem dX11_needed_83 : decode cX11_needed 83 = .ok (.ireturn, 1) := by decide +kernel
set_option maxRecDepth 4000 in
theorem c_X11_needed_339 {l : Launch} {D : va_G} {B : Nat} {cy : Nat → ClassId} {M : Mem} (h0 : M.1 22 2 = 0) (h1 : M.1 22 7 = 0) : Ci l D B cy yX11_needed cX11_needed 4 (some .int) 2 43 [.ref (B + 0)] M (fun r M1 => r = 0 ∧ M1 = M) := by
  refine s_any (by decide) (Nat.le_of_ble_eq_true rfl) ?_
  intro p e s m below meth c ls F hr hlocks w hl
  have F : CallFix p m c cX11_needed 4 s _ TB RX11 := F
  have hx := F.1
  have hb := F.2.1
  have hl : lv_has ls 4 [(0, .ref (B + 0))] := hl
  refine lv_iconst (v := 0) hx hb dX11_needed_0 (by decide) ?_
  refine lv_istore_n (lv' := [(1, .int 0), (0, .ref (B + 0))]) hx hb dX11_needed_1 rfl hl (by decide) rfl (fun ls hl => ?_)
  refine lv_aload_n hx hb dX11_needed_2 rfl (lv_at hl 1 rfl) ?_
  refine f_11_3 F w (a := 0) rfl tb_73 dX11_needed_3 ?_
  refine lv_aload_n hx hb dX11_needed_6 rfl (lv_at hl 1 rfl) ?_
  refine f_11_3 F w (a := 0) rfl tb_73 dX11_needed_7 ?_
  refine f_0_2 F w (a := 22) rfl tb_216 dX11_needed_10 ?_
  refine r_val (v := 0) (h0) ?_
  refine x_Vr F w (As := [.int 0]) (rest := []) (a := 22) (by decide) (sh_0 rfl _ _) rfl (c_X0_stageOf_207 (h0) (h1)) gv_X11_196 hv_X0_stageOf ⟨Nat.le_of_ble_eq_true rfl, Nat.le_of_ble_eq_true rfl⟩ hl.1 rfl (Nat.le_of_ble_eq_true rfl) ⟨Nat.zero_le _, Nat.zero_le _⟩ dX11_needed_13 (fun H locs w => ?_)
  refine lv_astore_n (lv' := [(2, .ref (B + 44)), (1, .int 0), (0, .ref (B + 0))]) hx hb dX11_needed_16 rfl hl (by decide) rfl (fun ls hl => ?_)
  refine lv_iconst (v := 0) hx hb dX11_needed_17 (by decide) ?_
  refine lv_istore_n (lv' := [(3, .int 0), (2, .ref (B + 44)), (1, .int 0), (0, .ref (B + 0))]) hx hb dX11_needed_18 rfl hl (by decide) rfl (fun ls hl => ?_)
  refine lv_iload_n hx hb dX11_needed_19 rfl (lv_at hl 0 rfl) ?_
  refine lv_aload_n hx hb dX11_needed_20 rfl (lv_at hl 3 rfl) ?_
  refine f_11_3 F w (a := 0) rfl tb_73 dX11_needed_21 ?_
  refine f_0_2 F w (a := 22) rfl tb_216 dX11_needed_24 ?_
  refine r_val (v := 0) (h0) ?_
  refine lv_icmp_ge (tgt := 82) hx hb dX11_needed_27 (by decide) (fun _ => ?_) (fun c1 => absurd c1 (by decide))
  refine lv_iload_n hx hb dX11_needed_82 rfl (lv_at hl 2 rfl) ?_
  exact e_i F w hr hlocks ⟨rfl, rfl⟩ dX11_needed_83
theorem tk_X11_needed : Cond.code yX11_needed cX11_needed 4 (some .int) ∈ TB := tbm (tc4 (List.mem_of_getElem? (i := 235) rfl)) rfl
theorem gc_X11_needed : GoodIn TB (cw yX11_needed cX11_needed 4 (some .int)) := goodIn_c2 tk_X11_needed
theorem tb_502 : Cond.methodLink "ToneLinesLaw" 119 yX11_needed ∈ TB := tbm (tc4 (List.mem_of_getElem? (i := 232) rfl)) rfl
theorem tb_503 : Cond.instanceMethod yX11_needed ∈ TB := tbm (tc4 (List.mem_of_getElem? (i := 233) rfl)) rfl
theorem tb_504 : Cond.selects "ToneLines" yX11_needed yX11_needed ∈ TB := tbm (tc4 (List.mem_of_getElem? (i := 234) rfl)) rfl
theorem gv_L_119 : GoodIn TB (wsV RL 119 RX11 yX11_needed (cw yX11_needed cX11_needed 4 (some .int))) := goodIn_4 tb_502 tb_503 tb_504 tb_145 gc_X11_needed
theorem hv_X11_needed : yX11_needed.cls = RX11 ∧ yX11_needed.cls ≠ "java/lang/invoke/MethodHandle" ∧ yX11_needed.cls ≠ "java/lang/invoke/VarHandle" ∧ (parseMethodDescriptor yX11_needed.desc).map (fun d => d.parameters.length) = some 0 := by decide +kernel
theorem dL_law_964 : decode cL_law 964 = .ok (.aload_n 2, 1) := by decide +kernel
theorem dL_law_965 : decode cL_law 965 = .ok (.invokevirtual 122, 3) := by decide +kernel
theorem dX12_needed_0 : decode cX12_needed 0 = .ok (.aload_n 0, 1) := by decide +kernel
theorem dX12_needed_1 : decode cX12_needed 1 = .ok (.invokevirtual 303, 3) := by decide +kernel
theorem dX12_laysDue_0 : decode cX12_laysDue 0 = .ok (.aload_n 0, 1) := by decide +kernel
theorem dX12_laysDue_1 : decode cX12_laysDue 1 = .ok (.aload_n 0, 1) := by decide +kernel
theorem dX12_laysDue_2 : decode cX12_laysDue 2 = .ok (.getfield 239, 3) := by decide +kernel
theorem dX12_laysDue_5 : decode cX12_laysDue 5 = .ok (.invokevirtual 255, 3) := by decide +kernel
theorem dX12_laysDue_8 : decode cX12_laysDue 8 = .ok (.pop, 1) := by decide +kernel
theorem dX12_laysDue_9 : decode cX12_laysDue 9 = .ok (.iconst 0, 1) := by decide +kernel
theorem dX12_laysDue_10 : decode cX12_laysDue 10 = .ok (.istore_n 1, 1) := by decide +kernel
theorem dX12_laysDue_11 : decode cX12_laysDue 11 = .ok (.iload_n 1, 1) := by decide +kernel
theorem dX12_laysDue_12 : decode cX12_laysDue 12 = .ok (.bipush 12, 2) := by decide +kernel
theorem dX12_laysDue_14 : decode cX12_laysDue 14 = .ok (.if_icmp .ge 35, 3) := by decide +kernel
theorem dX12_laysDue_17 : decode cX12_laysDue 17 = .ok (.aload_n 0, 1) := by decide +kernel
theorem dX12_laysDue_18 : decode cX12_laysDue 18 = .ok (.getfield 45, 3) := by decide +kernel
theorem dX12_laysDue_21 : decode cX12_laysDue 21 = .ok (.iload_n 1, 1) := by decide +kernel
theorem dX12_laysDue_22 : decode cX12_laysDue 22 = .ok (.iload_n 1, 1) := by decide +kernel
theorem dX12_laysDue_23 : decode cX12_laysDue 23 = .ok (.aload_n 0, 1) := by decide +kernel
theorem dX12_laysDue_24 : decode cX12_laysDue 24 = .ok (.getfield 17, 3) := by decide +kernel
theorem dX12_laysDue_27 : decode cX12_laysDue 27 = .ok (.bipush 25, 2) := by decide +kernel
theorem dX12_laysDue_29 : decode cX12_laysDue 29 = .ok (.iaload, 1) := by decide +kernel
theorem dX12_laysDue_30 : decode cX12_laysDue 30 = .ok (.if_icmp .ge 11, 3) := by decide +kernel
theorem dX12_laysDue_41 : decode cX12_laysDue 41 = .ok (.iconst 0, 1) := by decide +kernel
theorem dX12_laysDue_42 : decode cX12_laysDue 42 = .ok (.iastore, 1) := by decide +kernel
theorem dX12_laysDue_43 : decode cX12_laysDue 43 = .ok (.iinc 1 1, 3) := by decide +kernel
theorem dX12_laysDue_46 : decode cX12_laysDue 46 = .ok (.goto (-35), 3) := by decide +kernel
theorem dX12_laysDue_49 : decode cX12_laysDue 49 = .ok (.return_, 1) := by decide +kernel
set_option maxRecDepth 4000 in
theorem c_X12_laysDue_340 {l : Launch} {D : va_G} {B : Nat} {cy : Nat → ClassId} {M : Mem} (h0 : M.1 146 5 = 0) (h1 : M.1 147 0 = 0) (h2 : M.1 148 0 = 0) (h3 : M.1 147 1 = 0) (h4 : M.1 148 1 = 0) (h5 : M.1 147 2 = 0) (h6 : M.1 148 2 = 0) (h7 : M.1 147 3 = 0) (h8 : M.1 148 3 = 0) (h9 : M.1 147 4 = 0) (h10 : M.1 148 4 = 0) (h11 : M.1 147 5 = 0) (h12 : M.1 148 5 = 0) (h13 : M.1 147 6 = 0) (h14 : M.1 148 6 = 0) (h15 : M.1 147 7 = 0) (h16 : M.1 148 7 = 0) (h17 : M.1 147 8 = 0) (h18 : M.1 148 8 = 0) (h19 : M.1 147 9 = 0) (h20 : M.1 148 9 = 0) (h21 : M.1 147 10 = 0) (h22 : M.1 148 10 = 0) (h23 : M.1 147 11 = 0) (h24 : M.1 148 11 = 0) (h25 : M.1 147 12 = 0) (h26 : M.1 148 12 = 0) (h27 : M.1 147 13 = 0) (h28 : M.1 148 13 = 0) (h29 : M.1 147 14 = 0) (h30 : M.1 148 14 = 0) (h31 : M.1 147 15 = 0) (h32 : M.1 148 15 = 0) (h33 : M.1 147 16 = 0) (h34 : M.1 148 16 = 0) (h35 : M.1 147 17 = 0) (h36 : M.1 148 17 = 0) (h37 : M.1 147 18 = 0) (h38 : M.1 148 18 = 0) (h39 : M.1 147 19 = 0) (h40 : M.1 148 19 = 0) (h41 : M.1 147 20 = 0) (h42 : M.1 148 20 = 0) (h43 : M.1 147 21 = 0) (h44 : M.1 148 21 = 0) (h45 : M.1 147 22 = 0) (h46 : M.1 148 22 = 0) (h47 : M.1 147 23 = 0) (h48 : M.1 148 23 = 0) (h49 : M.1 147 24 = 0) (h50 : M.1 148 24 = 0) (h51 : M.1 147 25 = 0) (h52 : M.1 148 25 = 0) (h53 : M.1 147 26 = 0) (h54 : M.1 148 26 = 0) (h55 : M.1 147 27 = 0) (h56 : M.1 148 27 = 0) (h57 : M.1 157 0 = 0) (h58 : M.1 157 1 = 0) (h59 : M.1 157 2 = 0) (h60 : M.1 157 3 = 0) (h61 : M.1 157 4 = 0) (h62 : M.1 157 5 = 0) (h63 : M.1 157 6 = 0) (h64 : M.1 157 7 = 0) (h65 : M.1 157 8 = 0) (h66 : M.1 157 9 = 0) (h67 : M.1 157 10 = 0) (h68 : M.1 157 11 = 0) : Cv l D B cy yX12_laysDue cX12_laysDue 2 2 45 [.ref (B + 146)] M (fun M1 => M1 = M) := by
  refine s_any (by decide) (Nat.le_of_ble_eq_true rfl) ?_
  intro p e s m below meth c ls F hr hlocks w hl
  have F : CallFix p m c cX12_laysDue 2 s _ TB RX12 := F
  have hx := F.1
  have hb := F.2.1
  have hl : lv_has ls 2 [(0, .ref (B + 146))] := hl
  refine lv_aload_n hx hb dX12_laysDue_0 rfl (lv_at hl 0 rfl) ?_
  refine lv_aload_n hx hb dX12_laysDue_1 rfl (lv_at hl 0 rfl) ?_
  refine f_12_5 F w (a := 146) rfl tb_227 dX12_laysDue_2 ?_
  refine r_val (v := 0) (h0) ?_
  refine x_Vi F w (As := [.int 0]) (rest := []) (a := 146) (by decide) (sh_12 rfl _ _) rfl (c_X12_derives_212 (h1) (h2) (h3) (h4) (h5) (h6) (h7) (h8) (h9) (h10) (h11) (h12) (h13) (h14) (h15) (h16) (h17) (h18) (h19) (h20) (h21) (h22) (h23) (h24) (h25) (h26) (h27) (h28) (h29) (h30) (h31) (h32) (h33) (h34) (h35) (h36) (h37) (h38) (h39) (h40) (h41) (h42) (h43) (h44) (h45) (h46) (h47) (h48) (h49) (h50) (h51) (h52) (h53) (h54) (h55) (h56)) gv_X12_255 hv_X12_derives ⟨Nat.le_of_ble_eq_true rfl, Nat.le_of_ble_eq_true rfl⟩ hl.1 rfl (Nat.le_of_ble_eq_true rfl) ⟨Nat.zero_le _, Nat.zero_le _⟩ dX12_laysDue_5 (fun H locs w => ?_)
  refine lv_pop hx hb dX12_laysDue_8 rfl ?_
  refine lv_iconst (v := 0) hx hb dX12_laysDue_9 (by decide) ?_
  refine lv_istore_n (lv' := [(1, .int 0), (0, .ref (B + 146))]) hx hb dX12_laysDue_10 rfl hl (by decide) rfl (fun ls hl => ?_)
  refine lv_iload_n hx hb dX12_laysDue_11 rfl (lv_at hl 0 rfl) ?_
  refine lv_bipush (v := 12) hx hb dX12_laysDue_12 (by decide) ?_
  refine lv_icmp_ge (tgt := 49) hx hb dX12_laysDue_14 (by decide) (fun c1 => absurd c1 (by decide)) (fun _ => ?_)
  refine lv_aload_n hx hb dX12_laysDue_17 rfl (lv_at hl 1 rfl) ?_
  refine f_12_23 F w (a := 146) rfl tb_136 dX12_laysDue_18 ?_
  refine lv_iload_n hx hb dX12_laysDue_21 rfl (lv_at hl 0 rfl) ?_
  refine lv_iload_n hx hb dX12_laysDue_22 rfl (lv_at hl 0 rfl) ?_
  refine lv_aload_n hx hb dX12_laysDue_23 rfl (lv_at hl 1 rfl) ?_
  refine f_12_2 F w (a := 146) rfl tb_127 dX12_laysDue_24 ?_
  refine lv_bipush (v := 25) hx hb dX12_laysDue_27 (by decide) ?_
  refine g_iald F w (a := 148) rfl (j := 25) ⟨by decide, by decide⟩ (by decide) dX12_laysDue_29 ?_
  refine r_val (v := 0) (h52) ?_
  refine lv_icmp_ge (tgt := 41) hx hb dX12_laysDue_30 (by decide) (fun _ => ?_) (fun c1 => absurd c1 (by decide))
  refine lv_iconst (v := 0) hx hb dX12_laysDue_41 (by decide) ?_
  refine g_iast F w (a := 157) rfl (j := 0) ⟨by decide, by decide⟩ (by decide) dX12_laysDue_42 (fun H locs w => ?_)
  rw [st_same (h57)] at w
  refine lv_iinc (v := 1) (lv' := [(1, .int 1), (0, .ref (B + 146))]) hx hb dX12_laysDue_43 hl (k := 0) rfl (by decide) (by decide) rfl (fun ls hl => ?_)
  refine lv_goto (tgt := 11) hx hb dX12_laysDue_46 (by decide) ?_
  refine lv_iload_n hx hb dX12_laysDue_11 rfl (lv_at hl 0 rfl) ?_
  refine lv_bipush (v := 12) hx hb dX12_laysDue_12 (by decide) ?_
  refine lv_icmp_ge (tgt := 49) hx hb dX12_laysDue_14 (by decide) (fun c1 => absurd c1 (by decide)) (fun _ => ?_)
  refine lv_aload_n hx hb dX12_laysDue_17 rfl (lv_at hl 1 rfl) ?_
  refine f_12_23 F w (a := 146) rfl tb_136 dX12_laysDue_18 ?_
  refine lv_iload_n hx hb dX12_laysDue_21 rfl (lv_at hl 0 rfl) ?_
  refine lv_iload_n hx hb dX12_laysDue_22 rfl (lv_at hl 0 rfl) ?_
  refine lv_aload_n hx hb dX12_laysDue_23 rfl (lv_at hl 1 rfl) ?_
  refine f_12_2 F w (a := 146) rfl tb_127 dX12_laysDue_24 ?_
  refine lv_bipush (v := 25) hx hb dX12_laysDue_27 (by decide) ?_
  refine g_iald F w (a := 148) rfl (j := 25) ⟨by decide, by decide⟩ (by decide) dX12_laysDue_29 ?_
  refine r_val (v := 0) (h52) ?_
  refine lv_icmp_ge (tgt := 41) hx hb dX12_laysDue_30 (by decide) (fun _ => ?_) (fun c1 => absurd c1 (by decide))
  refine lv_iconst (v := 0) hx hb dX12_laysDue_41 (by decide) ?_
  refine g_iast F w (a := 157) rfl (j := 1) ⟨by decide, by decide⟩ (by decide) dX12_laysDue_42 (fun H locs w => ?_)
  rw [st_same (h58)] at w
  refine lv_iinc (v := 2) (lv' := [(1, .int 2), (0, .ref (B + 146))]) hx hb dX12_laysDue_43 hl (k := 0) rfl (by decide) (by decide) rfl (fun ls hl => ?_)
  refine lv_goto (tgt := 11) hx hb dX12_laysDue_46 (by decide) ?_
  refine lv_iload_n hx hb dX12_laysDue_11 rfl (lv_at hl 0 rfl) ?_
  refine lv_bipush (v := 12) hx hb dX12_laysDue_12 (by decide) ?_
  refine lv_icmp_ge (tgt := 49) hx hb dX12_laysDue_14 (by decide) (fun c1 => absurd c1 (by decide)) (fun _ => ?_)
  refine lv_aload_n hx hb dX12_laysDue_17 rfl (lv_at hl 1 rfl) ?_
  refine f_12_23 F w (a := 146) rfl tb_136 dX12_laysDue_18 ?_
  refine lv_iload_n hx hb dX12_laysDue_21 rfl (lv_at hl 0 rfl) ?_
  refine lv_iload_n hx hb dX12_laysDue_22 rfl (lv_at hl 0 rfl) ?_
  refine lv_aload_n hx hb dX12_laysDue_23 rfl (lv_at hl 1 rfl) ?_
  refine f_12_2 F w (a := 146) rfl tb_127 dX12_laysDue_24 ?_
  refine lv_bipush (v := 25) hx hb dX12_laysDue_27 (by decide) ?_
  refine g_iald F w (a := 148) rfl (j := 25) ⟨by decide, by decide⟩ (by decide) dX12_laysDue_29 ?_
  refine r_val (v := 0) (h52) ?_
  refine lv_icmp_ge (tgt := 41) hx hb dX12_laysDue_30 (by decide) (fun _ => ?_) (fun c1 => absurd c1 (by decide))
  refine lv_iconst (v := 0) hx hb dX12_laysDue_41 (by decide) ?_
  refine g_iast F w (a := 157) rfl (j := 2) ⟨by decide, by decide⟩ (by decide) dX12_laysDue_42 (fun H locs w => ?_)
  rw [st_same (h59)] at w
  refine lv_iinc (v := 3) (lv' := [(1, .int 3), (0, .ref (B + 146))]) hx hb dX12_laysDue_43 hl (k := 0) rfl (by decide) (by decide) rfl (fun ls hl => ?_)
  refine lv_goto (tgt := 11) hx hb dX12_laysDue_46 (by decide) ?_
  refine lv_iload_n hx hb dX12_laysDue_11 rfl (lv_at hl 0 rfl) ?_
  refine lv_bipush (v := 12) hx hb dX12_laysDue_12 (by decide) ?_
  refine lv_icmp_ge (tgt := 49) hx hb dX12_laysDue_14 (by decide) (fun c1 => absurd c1 (by decide)) (fun _ => ?_)
  refine lv_aload_n hx hb dX12_laysDue_17 rfl (lv_at hl 1 rfl) ?_
  refine f_12_23 F w (a := 146) rfl tb_136 dX12_laysDue_18 ?_
  refine lv_iload_n hx hb dX12_laysDue_21 rfl (lv_at hl 0 rfl) ?_
  refine lv_iload_n hx hb dX12_laysDue_22 rfl (lv_at hl 0 rfl) ?_
  refine lv_aload_n hx hb dX12_laysDue_23 rfl (lv_at hl 1 rfl) ?_
  refine f_12_2 F w (a := 146) rfl tb_127 dX12_laysDue_24 ?_
  refine lv_bipush (v := 25) hx hb dX12_laysDue_27 (by decide) ?_
  refine g_iald F w (a := 148) rfl (j := 25) ⟨by decide, by decide⟩ (by decide) dX12_laysDue_29 ?_
  refine r_val (v := 0) (h52) ?_
  refine lv_icmp_ge (tgt := 41) hx hb dX12_laysDue_30 (by decide) (fun _ => ?_) (fun c1 => absurd c1 (by decide))
  refine lv_iconst (v := 0) hx hb dX12_laysDue_41 (by decide) ?_
  refine g_iast F w (a := 157) rfl (j := 3) ⟨by decide, by decide⟩ (by decide) dX12_laysDue_42 (fun H locs w => ?_)
  rw [st_same (h60)] at w
  refine lv_iinc (v := 4) (lv' := [(1, .int 4), (0, .ref (B + 146))]) hx hb dX12_laysDue_43 hl (k := 0) rfl (by decide) (by decide) rfl (fun ls hl => ?_)
  refine lv_goto (tgt := 11) hx hb dX12_laysDue_46 (by decide) ?_
  refine lv_iload_n hx hb dX12_laysDue_11 rfl (lv_at hl 0 rfl) ?_
  refine lv_bipush (v := 12) hx hb dX12_laysDue_12 (by decide) ?_
  refine lv_icmp_ge (tgt := 49) hx hb dX12_laysDue_14 (by decide) (fun c1 => absurd c1 (by decide)) (fun _ => ?_)
  refine lv_aload_n hx hb dX12_laysDue_17 rfl (lv_at hl 1 rfl) ?_
  refine f_12_23 F w (a := 146) rfl tb_136 dX12_laysDue_18 ?_
  refine lv_iload_n hx hb dX12_laysDue_21 rfl (lv_at hl 0 rfl) ?_
  refine lv_iload_n hx hb dX12_laysDue_22 rfl (lv_at hl 0 rfl) ?_
  refine lv_aload_n hx hb dX12_laysDue_23 rfl (lv_at hl 1 rfl) ?_
  refine f_12_2 F w (a := 146) rfl tb_127 dX12_laysDue_24 ?_
  refine lv_bipush (v := 25) hx hb dX12_laysDue_27 (by decide) ?_
  refine g_iald F w (a := 148) rfl (j := 25) ⟨by decide, by decide⟩ (by decide) dX12_laysDue_29 ?_
  refine r_val (v := 0) (h52) ?_
  refine lv_icmp_ge (tgt := 41) hx hb dX12_laysDue_30 (by decide) (fun _ => ?_) (fun c1 => absurd c1 (by decide))
  refine lv_iconst (v := 0) hx hb dX12_laysDue_41 (by decide) ?_
  refine g_iast F w (a := 157) rfl (j := 4) ⟨by decide, by decide⟩ (by decide) dX12_laysDue_42 (fun H locs w => ?_)
  rw [st_same (h61)] at w
  refine lv_iinc (v := 5) (lv' := [(1, .int 5), (0, .ref (B + 146))]) hx hb dX12_laysDue_43 hl (k := 0) rfl (by decide) (by decide) rfl (fun ls hl => ?_)
  refine lv_goto (tgt := 11) hx hb dX12_laysDue_46 (by decide) ?_
  refine lv_iload_n hx hb dX12_laysDue_11 rfl (lv_at hl 0 rfl) ?_
  refine lv_bipush (v := 12) hx hb dX12_laysDue_12 (by decide) ?_
  refine lv_icmp_ge (tgt := 49) hx hb dX12_laysDue_14 (by decide) (fun c1 => absurd c1 (by decide)) (fun _ => ?_)
  refine lv_aload_n hx hb dX12_laysDue_17 rfl (lv_at hl 1 rfl) ?_
  refine f_12_23 F w (a := 146) rfl tb_136 dX12_laysDue_18 ?_
  refine lv_iload_n hx hb dX12_laysDue_21 rfl (lv_at hl 0 rfl) ?_
  refine lv_iload_n hx hb dX12_laysDue_22 rfl (lv_at hl 0 rfl) ?_
  refine lv_aload_n hx hb dX12_laysDue_23 rfl (lv_at hl 1 rfl) ?_
  refine f_12_2 F w (a := 146) rfl tb_127 dX12_laysDue_24 ?_
  refine lv_bipush (v := 25) hx hb dX12_laysDue_27 (by decide) ?_
  refine g_iald F w (a := 148) rfl (j := 25) ⟨by decide, by decide⟩ (by decide) dX12_laysDue_29 ?_
  refine r_val (v := 0) (h52) ?_
  refine lv_icmp_ge (tgt := 41) hx hb dX12_laysDue_30 (by decide) (fun _ => ?_) (fun c1 => absurd c1 (by decide))
  refine lv_iconst (v := 0) hx hb dX12_laysDue_41 (by decide) ?_
  refine g_iast F w (a := 157) rfl (j := 5) ⟨by decide, by decide⟩ (by decide) dX12_laysDue_42 (fun H locs w => ?_)
  rw [st_same (h62)] at w
  refine lv_iinc (v := 6) (lv' := [(1, .int 6), (0, .ref (B + 146))]) hx hb dX12_laysDue_43 hl (k := 0) rfl (by decide) (by decide) rfl (fun ls hl => ?_)
  refine lv_goto (tgt := 11) hx hb dX12_laysDue_46 (by decide) ?_
  refine lv_iload_n hx hb dX12_laysDue_11 rfl (lv_at hl 0 rfl) ?_
  refine lv_bipush (v := 12) hx hb dX12_laysDue_12 (by decide) ?_
  refine lv_icmp_ge (tgt := 49) hx hb dX12_laysDue_14 (by decide) (fun c1 => absurd c1 (by decide)) (fun _ => ?_)
  refine lv_aload_n hx hb dX12_laysDue_17 rfl (lv_at hl 1 rfl) ?_
  refine f_12_23 F w (a := 146) rfl tb_136 dX12_laysDue_18 ?_
  refine lv_iload_n hx hb dX12_laysDue_21 rfl (lv_at hl 0 rfl) ?_
  refine lv_iload_n hx hb dX12_laysDue_22 rfl (lv_at hl 0 rfl) ?_
  refine lv_aload_n hx hb dX12_laysDue_23 rfl (lv_at hl 1 rfl) ?_
  refine f_12_2 F w (a := 146) rfl tb_127 dX12_laysDue_24 ?_
  refine lv_bipush (v := 25) hx hb dX12_laysDue_27 (by decide) ?_
  refine g_iald F w (a := 148) rfl (j := 25) ⟨by decide, by decide⟩ (by decide) dX12_laysDue_29 ?_
  refine r_val (v := 0) (h52) ?_
  refine lv_icmp_ge (tgt := 41) hx hb dX12_laysDue_30 (by decide) (fun _ => ?_) (fun c1 => absurd c1 (by decide))
  refine lv_iconst (v := 0) hx hb dX12_laysDue_41 (by decide) ?_
  refine g_iast F w (a := 157) rfl (j := 6) ⟨by decide, by decide⟩ (by decide) dX12_laysDue_42 (fun H locs w => ?_)
  rw [st_same (h63)] at w
  refine lv_iinc (v := 7) (lv' := [(1, .int 7), (0, .ref (B + 146))]) hx hb dX12_laysDue_43 hl (k := 0) rfl (by decide) (by decide) rfl (fun ls hl => ?_)
  refine lv_goto (tgt := 11) hx hb dX12_laysDue_46 (by decide) ?_
  refine lv_iload_n hx hb dX12_laysDue_11 rfl (lv_at hl 0 rfl) ?_
  refine lv_bipush (v := 12) hx hb dX12_laysDue_12 (by decide) ?_
  refine lv_icmp_ge (tgt := 49) hx hb dX12_laysDue_14 (by decide) (fun c1 => absurd c1 (by decide)) (fun _ => ?_)
  refine lv_aload_n hx hb dX12_laysDue_17 rfl (lv_at hl 1 rfl) ?_
  refine f_12_23 F w (a := 146) rfl tb_136 dX12_laysDue_18 ?_
  refine lv_iload_n hx hb dX12_laysDue_21 rfl (lv_at hl 0 rfl) ?_
  refine lv_iload_n hx hb dX12_laysDue_22 rfl (lv_at hl 0 rfl) ?_
  refine lv_aload_n hx hb dX12_laysDue_23 rfl (lv_at hl 1 rfl) ?_
  refine f_12_2 F w (a := 146) rfl tb_127 dX12_laysDue_24 ?_
  refine lv_bipush (v := 25) hx hb dX12_laysDue_27 (by decide) ?_
  refine g_iald F w (a := 148) rfl (j := 25) ⟨by decide, by decide⟩ (by decide) dX12_laysDue_29 ?_
  refine r_val (v := 0) (h52) ?_
  refine lv_icmp_ge (tgt := 41) hx hb dX12_laysDue_30 (by decide) (fun _ => ?_) (fun c1 => absurd c1 (by decide))
  refine lv_iconst (v := 0) hx hb dX12_laysDue_41 (by decide) ?_
  refine g_iast F w (a := 157) rfl (j := 7) ⟨by decide, by decide⟩ (by decide) dX12_laysDue_42 (fun H locs w => ?_)
  rw [st_same (h64)] at w
  refine lv_iinc (v := 8) (lv' := [(1, .int 8), (0, .ref (B + 146))]) hx hb dX12_laysDue_43 hl (k := 0) rfl (by decide) (by decide) rfl (fun ls hl => ?_)
  refine lv_goto (tgt := 11) hx hb dX12_laysDue_46 (by decide) ?_
  refine lv_iload_n hx hb dX12_laysDue_11 rfl (lv_at hl 0 rfl) ?_
  refine lv_bipush (v := 12) hx hb dX12_laysDue_12 (by decide) ?_
  refine lv_icmp_ge (tgt := 49) hx hb dX12_laysDue_14 (by decide) (fun c1 => absurd c1 (by decide)) (fun _ => ?_)
  refine lv_aload_n hx hb dX12_laysDue_17 rfl (lv_at hl 1 rfl) ?_
  refine f_12_23 F w (a := 146) rfl tb_136 dX12_laysDue_18 ?_
  refine lv_iload_n hx hb dX12_laysDue_21 rfl (lv_at hl 0 rfl) ?_
  refine lv_iload_n hx hb dX12_laysDue_22 rfl (lv_at hl 0 rfl) ?_
  refine lv_aload_n hx hb dX12_laysDue_23 rfl (lv_at hl 1 rfl) ?_
  refine f_12_2 F w (a := 146) rfl tb_127 dX12_laysDue_24 ?_
  refine lv_bipush (v := 25) hx hb dX12_laysDue_27 (by decide) ?_
  refine g_iald F w (a := 148) rfl (j := 25) ⟨by decide, by decide⟩ (by decide) dX12_laysDue_29 ?_
  refine r_val (v := 0) (h52) ?_
  refine lv_icmp_ge (tgt := 41) hx hb dX12_laysDue_30 (by decide) (fun _ => ?_) (fun c1 => absurd c1 (by decide))
  refine lv_iconst (v := 0) hx hb dX12_laysDue_41 (by decide) ?_
  refine g_iast F w (a := 157) rfl (j := 8) ⟨by decide, by decide⟩ (by decide) dX12_laysDue_42 (fun H locs w => ?_)
  rw [st_same (h65)] at w
  refine lv_iinc (v := 9) (lv' := [(1, .int 9), (0, .ref (B + 146))]) hx hb dX12_laysDue_43 hl (k := 0) rfl (by decide) (by decide) rfl (fun ls hl => ?_)
  refine lv_goto (tgt := 11) hx hb dX12_laysDue_46 (by decide) ?_
  refine lv_iload_n hx hb dX12_laysDue_11 rfl (lv_at hl 0 rfl) ?_
  refine lv_bipush (v := 12) hx hb dX12_laysDue_12 (by decide) ?_
  refine lv_icmp_ge (tgt := 49) hx hb dX12_laysDue_14 (by decide) (fun c1 => absurd c1 (by decide)) (fun _ => ?_)
  refine lv_aload_n hx hb dX12_laysDue_17 rfl (lv_at hl 1 rfl) ?_
  refine f_12_23 F w (a := 146) rfl tb_136 dX12_laysDue_18 ?_
  refine lv_iload_n hx hb dX12_laysDue_21 rfl (lv_at hl 0 rfl) ?_
  refine lv_iload_n hx hb dX12_laysDue_22 rfl (lv_at hl 0 rfl) ?_
  refine lv_aload_n hx hb dX12_laysDue_23 rfl (lv_at hl 1 rfl) ?_
  refine f_12_2 F w (a := 146) rfl tb_127 dX12_laysDue_24 ?_
  refine lv_bipush (v := 25) hx hb dX12_laysDue_27 (by decide) ?_
  refine g_iald F w (a := 148) rfl (j := 25) ⟨by decide, by decide⟩ (by decide) dX12_laysDue_29 ?_
  refine r_val (v := 0) (h52) ?_
  refine lv_icmp_ge (tgt := 41) hx hb dX12_laysDue_30 (by decide) (fun _ => ?_) (fun c1 => absurd c1 (by decide))
  refine lv_iconst (v := 0) hx hb dX12_laysDue_41 (by decide) ?_
  refine g_iast F w (a := 157) rfl (j := 9) ⟨by decide, by decide⟩ (by decide) dX12_laysDue_42 (fun H locs w => ?_)
  rw [st_same (h66)] at w
  refine lv_iinc (v := 10) (lv' := [(1, .int 10), (0, .ref (B + 146))]) hx hb dX12_laysDue_43 hl (k := 0) rfl (by decide) (by decide) rfl (fun ls hl => ?_)
  refine lv_goto (tgt := 11) hx hb dX12_laysDue_46 (by decide) ?_
  refine lv_iload_n hx hb dX12_laysDue_11 rfl (lv_at hl 0 rfl) ?_
  refine lv_bipush (v := 12) hx hb dX12_laysDue_12 (by decide) ?_
  refine lv_icmp_ge (tgt := 49) hx hb dX12_laysDue_14 (by decide) (fun c1 => absurd c1 (by decide)) (fun _ => ?_)
  refine lv_aload_n hx hb dX12_laysDue_17 rfl (lv_at hl 1 rfl) ?_
  refine f_12_23 F w (a := 146) rfl tb_136 dX12_laysDue_18 ?_
  refine lv_iload_n hx hb dX12_laysDue_21 rfl (lv_at hl 0 rfl) ?_
  refine lv_iload_n hx hb dX12_laysDue_22 rfl (lv_at hl 0 rfl) ?_
  refine lv_aload_n hx hb dX12_laysDue_23 rfl (lv_at hl 1 rfl) ?_
  refine f_12_2 F w (a := 146) rfl tb_127 dX12_laysDue_24 ?_
  refine lv_bipush (v := 25) hx hb dX12_laysDue_27 (by decide) ?_
  refine g_iald F w (a := 148) rfl (j := 25) ⟨by decide, by decide⟩ (by decide) dX12_laysDue_29 ?_
  refine r_val (v := 0) (h52) ?_
  refine lv_icmp_ge (tgt := 41) hx hb dX12_laysDue_30 (by decide) (fun _ => ?_) (fun c1 => absurd c1 (by decide))
  refine lv_iconst (v := 0) hx hb dX12_laysDue_41 (by decide) ?_
  refine g_iast F w (a := 157) rfl (j := 10) ⟨by decide, by decide⟩ (by decide) dX12_laysDue_42 (fun H locs w => ?_)
  rw [st_same (h67)] at w
  refine lv_iinc (v := 11) (lv' := [(1, .int 11), (0, .ref (B + 146))]) hx hb dX12_laysDue_43 hl (k := 0) rfl (by decide) (by decide) rfl (fun ls hl => ?_)
  refine lv_goto (tgt := 11) hx hb dX12_laysDue_46 (by decide) ?_
  refine lv_iload_n hx hb dX12_laysDue_11 rfl (lv_at hl 0 rfl) ?_
  refine lv_bipush (v := 12) hx hb dX12_laysDue_12 (by decide) ?_
  refine lv_icmp_ge (tgt := 49) hx hb dX12_laysDue_14 (by decide) (fun c1 => absurd c1 (by decide)) (fun _ => ?_)
  refine lv_aload_n hx hb dX12_laysDue_17 rfl (lv_at hl 1 rfl) ?_
  refine f_12_23 F w (a := 146) rfl tb_136 dX12_laysDue_18 ?_
  refine lv_iload_n hx hb dX12_laysDue_21 rfl (lv_at hl 0 rfl) ?_
  refine lv_iload_n hx hb dX12_laysDue_22 rfl (lv_at hl 0 rfl) ?_
  refine lv_aload_n hx hb dX12_laysDue_23 rfl (lv_at hl 1 rfl) ?_
  refine f_12_2 F w (a := 146) rfl tb_127 dX12_laysDue_24 ?_
  refine lv_bipush (v := 25) hx hb dX12_laysDue_27 (by decide) ?_
  refine g_iald F w (a := 148) rfl (j := 25) ⟨by decide, by decide⟩ (by decide) dX12_laysDue_29 ?_
  refine r_val (v := 0) (h52) ?_
  refine lv_icmp_ge (tgt := 41) hx hb dX12_laysDue_30 (by decide) (fun _ => ?_) (fun c1 => absurd c1 (by decide))
  refine lv_iconst (v := 0) hx hb dX12_laysDue_41 (by decide) ?_
  refine g_iast F w (a := 157) rfl (j := 11) ⟨by decide, by decide⟩ (by decide) dX12_laysDue_42 (fun H locs w => ?_)
  rw [st_same (h68)] at w
  refine lv_iinc (v := 12) (lv' := [(1, .int 12), (0, .ref (B + 146))]) hx hb dX12_laysDue_43 hl (k := 0) rfl (by decide) (by decide) rfl (fun ls hl => ?_)
  refine lv_goto (tgt := 11) hx hb dX12_laysDue_46 (by decide) ?_
  refine lv_iload_n hx hb dX12_laysDue_11 rfl (lv_at hl 0 rfl) ?_
  refine lv_bipush (v := 12) hx hb dX12_laysDue_12 (by decide) ?_
  refine lv_icmp_ge (tgt := 49) hx hb dX12_laysDue_14 (by decide) (fun _ => ?_) (fun c1 => absurd c1 (by decide))
  exact e_v F w hr hlocks rfl dX12_laysDue_49
theorem tk_X12_laysDue : Cond.code yX12_laysDue cX12_laysDue 2 none ∈ TB := tbm (tc7 (List.mem_of_getElem? (i := 0) rfl)) rfl
theorem gc_X12_laysDue : GoodIn TB (cw yX12_laysDue cX12_laysDue 2 none) := goodIn_c2 tk_X12_laysDue
theorem tb_505 : Cond.methodLink "ToneLinesModel" 303 yX12_laysDue ∈ TB := tbm (tc6 (List.mem_of_getElem? (i := 237) rfl)) rfl
theorem tb_506 : Cond.instanceMethod yX12_laysDue ∈ TB := tbm (tc6 (List.mem_of_getElem? (i := 239) rfl)) rfl
theorem tb_507 : Cond.selects "ToneLinesModel" yX12_laysDue yX12_laysDue ∈ TB := tbp (List.mem_of_getElem? (i := 85) rfl) rfl
theorem gv_X12_303 : GoodIn TB (wsV RX12 303 RX12 yX12_laysDue (cw yX12_laysDue cX12_laysDue 2 none)) := goodIn_4 tb_505 tb_506 tb_507 tb_150 gc_X12_laysDue
theorem hv_X12_laysDue : yX12_laysDue.cls = RX12 ∧ yX12_laysDue.cls ≠ "java/lang/invoke/MethodHandle" ∧ yX12_laysDue.cls ≠ "java/lang/invoke/VarHandle" ∧ (parseMethodDescriptor yX12_laysDue.desc).map (fun d => d.parameters.length) = some 0 := by decide +kernel
theorem dX12_needed_4 : decode cX12_needed 4 = .ok (.iconst 0, 1) := by decide +kernel
theorem dX12_needed_5 : decode cX12_needed 5 = .ok (.istore_n 1, 1) := by decide +kernel
theorem dX12_needed_6 : decode cX12_needed 6 = .ok (.iconst 0, 1) := by decide +kernel
theorem dX12_needed_7 : decode cX12_needed 7 = .ok (.istore_n 2, 1) := by decide +kernel
theorem dX12_needed_8 : decode cX12_needed 8 = .ok (.iload_n 2, 1) := by decide +kernel
theorem dX12_needed_9 : decode cX12_needed 9 = .ok (.aload_n 0, 1) := by decide +kernel
theorem dX12_needed_10 : decode cX12_needed 10 = .ok (.getfield 239, 3) := by decide +kernel
theorem dX12_needed_13 : decode cX12_needed 13 = .ok (.if_icmp .ge 60, 3) := by decide +kernel
theorem dX12_needed_73 : decode cX12_needed 73 = .ok (.iload_n 1, 1) := by decide +kernel
theorem dX12_needed_74 : decode cX12_needed 74 = .ok (.ireturn, 1) := by decide +kernel
set_option maxRecDepth 4000 in
theorem c_X12_needed_341 {l : Launch} {D : va_G} {B : Nat} {cy : Nat → ClassId} {M : Mem} (h0 : M.1 146 5 = 0) (h1 : M.1 147 0 = 0) (h2 : M.1 148 0 = 0) (h3 : M.1 147 1 = 0) (h4 : M.1 148 1 = 0) (h5 : M.1 147 2 = 0) (h6 : M.1 148 2 = 0) (h7 : M.1 147 3 = 0) (h8 : M.1 148 3 = 0) (h9 : M.1 147 4 = 0) (h10 : M.1 148 4 = 0) (h11 : M.1 147 5 = 0) (h12 : M.1 148 5 = 0) (h13 : M.1 147 6 = 0) (h14 : M.1 148 6 = 0) (h15 : M.1 147 7 = 0) (h16 : M.1 148 7 = 0) (h17 : M.1 147 8 = 0) (h18 : M.1 148 8 = 0) (h19 : M.1 147 9 = 0) (h20 : M.1 148 9 = 0) (h21 : M.1 147 10 = 0) (h22 : M.1 148 10 = 0) (h23 : M.1 147 11 = 0) (h24 : M.1 148 11 = 0) (h25 : M.1 147 12 = 0) (h26 : M.1 148 12 = 0) (h27 : M.1 147 13 = 0) (h28 : M.1 148 13 = 0) (h29 : M.1 147 14 = 0) (h30 : M.1 148 14 = 0) (h31 : M.1 147 15 = 0) (h32 : M.1 148 15 = 0) (h33 : M.1 147 16 = 0) (h34 : M.1 148 16 = 0) (h35 : M.1 147 17 = 0) (h36 : M.1 148 17 = 0) (h37 : M.1 147 18 = 0) (h38 : M.1 148 18 = 0) (h39 : M.1 147 19 = 0) (h40 : M.1 148 19 = 0) (h41 : M.1 147 20 = 0) (h42 : M.1 148 20 = 0) (h43 : M.1 147 21 = 0) (h44 : M.1 148 21 = 0) (h45 : M.1 147 22 = 0) (h46 : M.1 148 22 = 0) (h47 : M.1 147 23 = 0) (h48 : M.1 148 23 = 0) (h49 : M.1 147 24 = 0) (h50 : M.1 148 24 = 0) (h51 : M.1 147 25 = 0) (h52 : M.1 148 25 = 0) (h53 : M.1 147 26 = 0) (h54 : M.1 148 26 = 0) (h55 : M.1 147 27 = 0) (h56 : M.1 148 27 = 0) (h57 : M.1 157 0 = 0) (h58 : M.1 157 1 = 0) (h59 : M.1 157 2 = 0) (h60 : M.1 157 3 = 0) (h61 : M.1 157 4 = 0) (h62 : M.1 157 5 = 0) (h63 : M.1 157 6 = 0) (h64 : M.1 157 7 = 0) (h65 : M.1 157 8 = 0) (h66 : M.1 157 9 = 0) (h67 : M.1 157 10 = 0) (h68 : M.1 157 11 = 0) : Ci l D B cy yX12_needed cX12_needed 4 (some .int) 3 66 [.ref (B + 146)] M (fun r M1 => r = 0 ∧ M1 = M) := by
  refine s_any (by decide) (Nat.le_of_ble_eq_true rfl) ?_
  intro p e s m below meth c ls F hr hlocks w hl
  have F : CallFix p m c cX12_needed 4 s _ TB RX12 := F
  have hx := F.1
  have hb := F.2.1
  have hl : lv_has ls 4 [(0, .ref (B + 146))] := hl
  refine lv_aload_n hx hb dX12_needed_0 rfl (lv_at hl 0 rfl) ?_
  refine x_Vv F w (As := []) (rest := []) (a := 146) (by decide) (sh_12 rfl _ _) rfl (c_X12_laysDue_340 (h0) (h1) (h2) (h3) (h4) (h5) (h6) (h7) (h8) (h9) (h10) (h11) (h12) (h13) (h14) (h15) (h16) (h17) (h18) (h19) (h20) (h21) (h22) (h23) (h24) (h25) (h26) (h27) (h28) (h29) (h30) (h31) (h32) (h33) (h34) (h35) (h36) (h37) (h38) (h39) (h40) (h41) (h42) (h43) (h44) (h45) (h46) (h47) (h48) (h49) (h50) (h51) (h52) (h53) (h54) (h55) (h56) (h57) (h58) (h59) (h60) (h61) (h62) (h63) (h64) (h65) (h66) (h67) (h68)) gv_X12_303 hv_X12_laysDue ⟨Nat.le_of_ble_eq_true rfl, Nat.le_of_ble_eq_true rfl⟩ hl.1 rfl (Nat.le_of_ble_eq_true rfl) ⟨Nat.zero_le _, Nat.zero_le _⟩ dX12_needed_1 (fun H locs w => ?_)
  refine lv_iconst (v := 0) hx hb dX12_needed_4 (by decide) ?_
  refine lv_istore_n (lv' := [(1, .int 0), (0, .ref (B + 146))]) hx hb dX12_needed_5 rfl hl (by decide) rfl (fun ls hl => ?_)
  refine lv_iconst (v := 0) hx hb dX12_needed_6 (by decide) ?_
  refine lv_istore_n (lv' := [(2, .int 0), (1, .int 0), (0, .ref (B + 146))]) hx hb dX12_needed_7 rfl hl (by decide) rfl (fun ls hl => ?_)
  refine lv_iload_n hx hb dX12_needed_8 rfl (lv_at hl 0 rfl) ?_
  refine lv_aload_n hx hb dX12_needed_9 rfl (lv_at hl 2 rfl) ?_
  refine f_12_5 F w (a := 146) rfl tb_227 dX12_needed_10 ?_
  refine r_val (v := 0) (h0) ?_
  refine lv_icmp_ge (tgt := 73) hx hb dX12_needed_13 (by decide) (fun _ => ?_) (fun c1 => absurd c1 (by decide))
  refine lv_iload_n hx hb dX12_needed_73 rfl (lv_at hl 1 rfl) ?_
  exact e_i F w hr hlocks ⟨rfl, rfl⟩ dX12_needed_74
theorem tk_X12_needed : Cond.code yX12_needed cX12_needed 4 (some .int) ∈ TB := tbm (tc7 (List.mem_of_getElem? (i := 8) rfl)) rfl
theorem gc_X12_needed : GoodIn TB (cw yX12_needed cX12_needed 4 (some .int)) := goodIn_c2 tk_X12_needed
theorem tb_508 : Cond.methodLink "ToneLinesLaw" 122 yX12_needed ∈ TB := tbm (tc7 (List.mem_of_getElem? (i := 5) rfl)) rfl
theorem tb_509 : Cond.instanceMethod yX12_needed ∈ TB := tbm (tc7 (List.mem_of_getElem? (i := 6) rfl)) rfl
theorem tb_510 : Cond.selects "ToneLinesModel" yX12_needed yX12_needed ∈ TB := tbm (tc7 (List.mem_of_getElem? (i := 7) rfl)) rfl
theorem gv_L_122 : GoodIn TB (wsV RL 122 RX12 yX12_needed (cw yX12_needed cX12_needed 4 (some .int))) := goodIn_4 tb_508 tb_509 tb_510 tb_150 gc_X12_needed
theorem hv_X12_needed : yX12_needed.cls = RX12 ∧ yX12_needed.cls ≠ "java/lang/invoke/MethodHandle" ∧ yX12_needed.cls ≠ "java/lang/invoke/VarHandle" ∧ (parseMethodDescriptor yX12_needed.desc).map (fun d => d.parameters.length) = some 0 := by decide +kernel
theorem dL_law_968 : decode cL_law 968 = .ok (.if_icmp .eq 97, 3) := by decide +kernel
set_option maxRecDepth 8000 in
theorem la_24_85 {p : Program} {l : Launch} {e : Env} {s : State} {m : MethodId} {below : List Frame} {meth : Method} {c : Code} {D : va_G} {B b : Nat} {cy : Nat → ClassId} {H : Heap} {locs : List Loc} {ls : Array Slot} {xs : Nat → Int32} {Q : State → Prop} (F : CallFix p m c code 4 s #[Value.ref b] TB RL) (hX : va_X b 6 xs s s.heap) (hbl : b < s.heap.size) (hbA : ¬ B ≤ b) (w : Wd D B cy s s.heap M0 H locs) (hl : lv_has ls 4 [(3, .int 0), (2, .ref (B + 146)), (1, .ref (B + 0)), (0, .ref b)]) (kk : ∀ (M1 : Mem) (H1 : Heap) (locs1 : List Loc), Wd D B cy s s.heap M1 H1 locs1 → W p l e room_1 s m #[Value.ref b] below meth c H1 locs1 159 13107 Q (F0 m 1065 ls [])) : W p l e room_1 s m #[Value.ref b] below meth c H locs 159 13107 Q (F0 m 960 ls []) := by
  have hx := F.1
  have hb := F.2.1
  refine lv_aload_n hx hb dL_law_960 rfl (lv_at hl 2 rfl) ?_
  refine x_Vi F w (As := []) (rest := []) (a := 0) (by decide) (sh_11 rfl _ _) rfl (c_X11_needed_339 (rfl) (rfl)) gv_L_119 hv_X11_needed ⟨Nat.le_of_ble_eq_true rfl, Nat.le_of_ble_eq_true rfl⟩ hl.1 rfl (Nat.le_of_ble_eq_true rfl) ⟨Nat.le_of_ble_eq_true rfl, Nat.le_of_ble_eq_true rfl⟩ dL_law_961 (fun H locs w => ?_)
  refine lv_aload_n hx hb dL_law_964 rfl (lv_at hl 1 rfl) ?_
  refine x_Vi F w (As := []) (rest := [.int 0]) (a := 146) (by decide) (sh_12 rfl _ _) rfl (c_X12_needed_341 (rfl) (rfl) (rfl) (rfl) (rfl) (rfl) (rfl) (rfl) (rfl) (rfl) (rfl) (rfl) (rfl) (rfl) (rfl) (rfl) (rfl) (rfl) (rfl) (rfl) (rfl) (rfl) (rfl) (rfl) (rfl) (rfl) (rfl) (rfl) (rfl) (rfl) (rfl) (rfl) (rfl) (rfl) (rfl) (rfl) (rfl) (rfl) (rfl) (rfl) (rfl) (rfl) (rfl) (rfl) (rfl) (rfl) (rfl) (rfl) (rfl) (rfl) (rfl) (rfl) (rfl) (rfl) (rfl) (rfl) (rfl) (rfl) (rfl) (rfl) (rfl) (rfl) (rfl) (rfl) (rfl) (rfl) (rfl) (rfl) (rfl)) gv_L_122 hv_X12_needed ⟨Nat.le_of_ble_eq_true rfl, Nat.le_of_ble_eq_true rfl⟩ hl.1 rfl (Nat.le_of_ble_eq_true rfl) ⟨Nat.le_of_ble_eq_true rfl, Nat.le_of_ble_eq_true rfl⟩ dL_law_965 (fun H locs w => ?_)
  refine lv_icmp_eq (tgt := 1065) hx hb dL_law_968 (by decide) (fun _ => ?_) (fun c1 => absurd c1 (by decide))
  exact kk _ _ _ w
set_option maxRecDepth 8000 in
theorem lc_24 {p : Program} {l : Launch} {e : Env} {s : State} {m : MethodId} {below : List Frame} {meth : Method} {c : Code} {D : va_G} {B b : Nat} {cy : Nat → ClassId} {H : Heap} {locs : List Loc} {ls : Array Slot} {xs : Nat → Int32} {Q : State → Prop} (F : CallFix p m c code 4 s #[Value.ref b] TB RL) (hX : va_X b 6 xs s s.heap) (hbl : b < s.heap.size) (hbA : ¬ B ≤ b) (w : Wd D B cy s s.heap M0 H locs) (hl : lv_has ls 4 [(3, .int 0), (2, .ref (B + 146)), (1, .ref (B + 0)), (0, .ref b)]) (kk : ∀ (M1 : Mem) (H1 : Heap) (locs1 : List Loc), Wd D B cy s s.heap M1 H1 locs1 → W p l e room_1 s m #[Value.ref b] below meth c H1 locs1 159 13107 Q (F0 m 1065 ls [])) : W p l e room_1 s m #[Value.ref b] below meth c H locs 159 13107 Q (F0 m 960 ls []) := by
  exact la_24_85 F hX hbl hbA w hl  kk
theorem dL_law_973 : decode cL_law 973 = .ok (.aload_n 1, 1) := by decide +kernel
theorem dL_law_974 : decode cL_law 974 = .ok (.aload_n 0, 1) := by decide +kernel
theorem dL_law_975 : decode cL_law 975 = .ok (.iload_n 3, 1) := by decide +kernel
theorem dL_law_976 : decode cL_law 976 = .ok (.iconst 1, 1) := by decide +kernel
theorem dL_law_977 : decode cL_law 977 = .ok (.iadd, 1) := by decide +kernel
theorem dL_law_978 : decode cL_law 978 = .ok (.iaload, 1) := by decide +kernel
theorem dL_law_979 : decode cL_law 979 = .ok (.invokevirtual 123, 3) := by decide +kernel
theorem dX11_orders_0 : decode cX11_orders 0 = .ok (.iload_n 1, 1) := by decide +kernel
theorem dX11_orders_1 : decode cX11_orders 1 = .ok (.ifCond .lt 8, 3) := by decide +kernel
theorem dX11_orders_9 : decode cX11_orders 9 = .ok (.iconst (-1), 1) := by decide +kernel
theorem dX11_orders_10 : decode cX11_orders 10 = .ok (.ireturn, 1) := by decide +kernel
set_option maxRecDepth 4000 in
theorem c_X11_orders_342 {l : Launch} {D : va_G} {B : Nat} {cy : Nat → ClassId} {M : Mem} {p1 : Int32} (h0 : p1 < 0) : Ci l D B cy yX11_orders cX11_orders 2 (some .int) 0 0 [.ref (B + 0), .int p1] M (fun r M1 => r = (-1) ∧ M1 = M) := by
  refine s_any (by decide) (Nat.le_of_ble_eq_true rfl) ?_
  intro p e s m below meth c ls F hr hlocks w hl
  have F : CallFix p m c cX11_orders 2 s _ TB RX11 := F
  have hx := F.1
  have hb := F.2.1
  have hl : lv_has ls 2 [(0, .ref (B + 0)), (1, .int p1)] := hl
  refine lv_iload_n hx hb dX11_orders_0 rfl (lv_at hl 1 rfl) ?_
  refine lv_if_lt (tgt := 9) hx hb dX11_orders_1 (by decide) (fun _ => ?_) (fun c1 => absurd h0 c1)
  refine lv_iconst (v := (-1)) hx hb dX11_orders_9 (by decide) ?_
  exact e_i F w hr hlocks ⟨rfl, rfl⟩ dX11_orders_10
theorem tk_X11_orders : Cond.code yX11_orders cX11_orders 2 (some .int) ∈ TB := tbm (tc4 (List.mem_of_getElem? (i := 239) rfl)) rfl
theorem gc_X11_orders : GoodIn TB (cw yX11_orders cX11_orders 2 (some .int)) := goodIn_c2 tk_X11_orders
theorem tb_511 : Cond.methodLink "ToneLinesLaw" 123 yX11_orders ∈ TB := tbm (tc4 (List.mem_of_getElem? (i := 236) rfl)) rfl
theorem tb_512 : Cond.instanceMethod yX11_orders ∈ TB := tbm (tc4 (List.mem_of_getElem? (i := 237) rfl)) rfl
theorem tb_513 : Cond.selects "ToneLines" yX11_orders yX11_orders ∈ TB := tbm (tc4 (List.mem_of_getElem? (i := 238) rfl)) rfl
theorem gv_L_123 : GoodIn TB (wsV RL 123 RX11 yX11_orders (cw yX11_orders cX11_orders 2 (some .int))) := goodIn_4 tb_511 tb_512 tb_513 tb_145 gc_X11_orders
theorem hv_X11_orders : yX11_orders.cls = RX11 ∧ yX11_orders.cls ≠ "java/lang/invoke/MethodHandle" ∧ yX11_orders.cls ≠ "java/lang/invoke/VarHandle" ∧ (parseMethodDescriptor yX11_orders.desc).map (fun d => d.parameters.length) = some 1 := by decide +kernel
theorem dL_law_982 : decode cL_law 982 = .ok (.aload_n 2, 1) := by decide +kernel
theorem dL_law_983 : decode cL_law 983 = .ok (.aload_n 0, 1) := by decide +kernel
theorem dL_law_984 : decode cL_law 984 = .ok (.iload_n 3, 1) := by decide +kernel
theorem dL_law_985 : decode cL_law 985 = .ok (.iconst 1, 1) := by decide +kernel
theorem dL_law_986 : decode cL_law 986 = .ok (.iadd, 1) := by decide +kernel
theorem dL_law_987 : decode cL_law 987 = .ok (.iaload, 1) := by decide +kernel
theorem dL_law_988 : decode cL_law 988 = .ok (.invokevirtual 126, 3) := by decide +kernel
theorem dX12_orders_0 : decode cX12_orders 0 = .ok (.iload_n 1, 1) := by decide +kernel
theorem dX12_orders_1 : decode cX12_orders 1 = .ok (.iconst 0, 1) := by decide +kernel
theorem dX12_orders_2 : decode cX12_orders 2 = .ok (.iconst 1, 1) := by decide +kernel
theorem dX12_orders_3 : decode cX12_orders 3 = .ok (.invokestatic 55, 3) := by decide +kernel
set_option maxRecDepth 4000 in
theorem c_X12_in_343 {l : Launch} {D : va_G} {B : Nat} {cy : Nat → ClassId} {M : Mem} {p0 : Int32} (h0 : p0 < 0) : Ci l D B cy yX12_in cX12_in 3 (some .boolean) 0 0 [.int p0, .int 0, .int 1] M (fun r M1 => r = 0 ∧ M1 = M) := by
  refine s_any (by decide) (Nat.le_of_ble_eq_true rfl) ?_
  intro p e s m below meth c ls F hr hlocks w hl
  have F : CallFix p m c cX12_in 3 s _ TB RX12 := F
  have hx := F.1
  have hb := F.2.1
  have hl : lv_has ls 3 [(0, .int p0), (1, .int 0), (2, .int 1)] := hl
  refine lv_iload_n hx hb dX12_in_0 rfl (lv_at hl 0 rfl) ?_
  refine lv_iload_n hx hb dX12_in_1 rfl (lv_at hl 1 rfl) ?_
  refine lv_icmp_lt (tgt := 14) hx hb dX12_in_2 (by decide) (fun _ => ?_) (fun c1 => absurd h0 c1)
  refine lv_iconst (v := 0) hx hb dX12_in_14 (by decide) ?_
  exact e_z F w hr hlocks (by decide) ⟨rfl, rfl⟩ dX12_in_15
theorem dX12_orders_6 : decode cX12_orders 6 = .ok (.ifCond .ne 5, 3) := by decide +kernel
theorem dX12_orders_9 : decode cX12_orders 9 = .ok (.iconst (-1), 1) := by decide +kernel
theorem dX12_orders_10 : decode cX12_orders 10 = .ok (.ireturn, 1) := by decide +kernel
set_option maxRecDepth 4000 in
theorem c_X12_orders_344 {l : Launch} {D : va_G} {B : Nat} {cy : Nat → ClassId} {M : Mem} {p1 : Int32} (h0 : p1 < 0) : Ci l D B cy yX12_orders cX12_orders 5 (some .int) 1 22 [.ref (B + 146), .int p1] M (fun r M1 => r = (-1) ∧ M1 = M) := by
  refine s_any (by decide) (Nat.le_of_ble_eq_true rfl) ?_
  intro p e s m below meth c ls F hr hlocks w hl
  have F : CallFix p m c cX12_orders 5 s _ TB RX12 := F
  have hx := F.1
  have hb := F.2.1
  have hl : lv_has ls 5 [(0, .ref (B + 146)), (1, .int p1)] := hl
  refine lv_iload_n hx hb dX12_orders_0 rfl (lv_at hl 1 rfl) ?_
  refine lv_iconst (v := 0) hx hb dX12_orders_1 (by decide) ?_
  refine lv_iconst (v := 1) hx hb dX12_orders_2 (by decide) ?_
  refine x_Si F w (As := [.int p1, .int 0, .int 1]) (rest := []) (c_X12_in_343 h0) gs_X12_55 hs_X12_in ⟨Nat.le_of_ble_eq_true rfl, Nat.le_of_ble_eq_true rfl⟩ hl.1 rfl (Nat.le_of_ble_eq_true rfl) ⟨Nat.zero_le _, Nat.zero_le _⟩ dX12_orders_3 (fun H locs w => ?_)
  refine lv_if_ne (tgt := 11) hx hb dX12_orders_6 (by decide) (fun c1 => absurd c1 (by decide)) (fun _ => ?_)
  refine lv_iconst (v := (-1)) hx hb dX12_orders_9 (by decide) ?_
  exact e_i F w hr hlocks ⟨rfl, rfl⟩ dX12_orders_10
theorem tk_X12_orders : Cond.code yX12_orders cX12_orders 5 (some .int) ∈ TB := tbm (tc7 (List.mem_of_getElem? (i := 12) rfl)) rfl
theorem gc_X12_orders : GoodIn TB (cw yX12_orders cX12_orders 5 (some .int)) := goodIn_c2 tk_X12_orders
theorem tb_514 : Cond.methodLink "ToneLinesLaw" 126 yX12_orders ∈ TB := tbm (tc7 (List.mem_of_getElem? (i := 9) rfl)) rfl
theorem tb_515 : Cond.instanceMethod yX12_orders ∈ TB := tbm (tc7 (List.mem_of_getElem? (i := 10) rfl)) rfl
theorem tb_516 : Cond.selects "ToneLinesModel" yX12_orders yX12_orders ∈ TB := tbm (tc7 (List.mem_of_getElem? (i := 11) rfl)) rfl
theorem gv_L_126 : GoodIn TB (wsV RL 126 RX12 yX12_orders (cw yX12_orders cX12_orders 5 (some .int))) := goodIn_4 tb_514 tb_515 tb_516 tb_150 gc_X12_orders
theorem hv_X12_orders : yX12_orders.cls = RX12 ∧ yX12_orders.cls ≠ "java/lang/invoke/MethodHandle" ∧ yX12_orders.cls ≠ "java/lang/invoke/VarHandle" ∧ (parseMethodDescriptor yX12_orders.desc).map (fun d => d.parameters.length) = some 1 := by decide +kernel
theorem dL_law_991 : decode cL_law 991 = .ok (.if_icmp .eq 74, 3) := by decide +kernel
set_option maxRecDepth 8000 in
theorem la_25_86 {p : Program} {l : Launch} {e : Env} {s : State} {m : MethodId} {below : List Frame} {meth : Method} {c : Code} {D : va_G} {B b : Nat} {cy : Nat → ClassId} {H : Heap} {locs : List Loc} {ls : Array Slot} {xs : Nat → Int32} {Q : State → Prop} (F : CallFix p m c code 4 s #[Value.ref b] TB RL) (hX : va_X b 6 xs s s.heap) (hbl : b < s.heap.size) (hbA : ¬ B ≤ b) (w : Wd D B cy s s.heap M0 H locs) (hl : lv_has ls 4 [(3, .int 0), (2, .ref (B + 146)), (1, .ref (B + 0)), (0, .ref b)]) (h0 : (xs 1) < 0) (kk : ∀ (M1 : Mem) (H1 : Heap) (locs1 : List Loc), Wd D B cy s s.heap M1 H1 locs1 → W p l e room_1 s m #[Value.ref b] below meth c H1 locs1 159 13107 Q (F0 m 1065 ls [])) : W p l e room_1 s m #[Value.ref b] below meth c H locs 159 13107 Q (F0 m 973 ls []) := by
  have hx := F.1
  have hb := F.2.1
  refine lv_aload_n hx hb dL_law_973 rfl (lv_at hl 2 rfl) ?_
  refine lv_aload_n hx hb dL_law_974 rfl (lv_at hl 3 rfl) ?_
  refine lv_iload_n hx hb dL_law_975 rfl (lv_at hl 0 rfl) ?_
  refine lv_iconst (v := 1) hx hb dL_law_976 (by decide) ?_
  refine lv_iadd hx hb dL_law_977 ?_
  refine r_val (v := 1) (by decide) ?_
  refine va_sld hx hb hX hbl hbA w.2.2.1 (vpi (by decide) (by decide)) dL_law_978 ?_
  refine r_val (v := xs 1) (congrArg xs (show (1 : Int32).toNatClampNeg = 1 by decide)) ?_
  refine x_Vi F w (As := [.int (xs 1)]) (rest := []) (a := 0) (by decide) (sh_11 rfl _ _) rfl (c_X11_orders_342 h0) gv_L_123 hv_X11_orders ⟨Nat.le_of_ble_eq_true rfl, Nat.le_of_ble_eq_true rfl⟩ hl.1 rfl (Nat.le_of_ble_eq_true rfl) ⟨Nat.le_of_ble_eq_true rfl, Nat.le_of_ble_eq_true rfl⟩ dL_law_979 (fun H locs w => ?_)
  refine lv_aload_n hx hb dL_law_982 rfl (lv_at hl 1 rfl) ?_
  refine lv_aload_n hx hb dL_law_983 rfl (lv_at hl 3 rfl) ?_
  refine lv_iload_n hx hb dL_law_984 rfl (lv_at hl 0 rfl) ?_
  refine lv_iconst (v := 1) hx hb dL_law_985 (by decide) ?_
  refine lv_iadd hx hb dL_law_986 ?_
  refine r_val (v := 1) (by decide) ?_
  refine va_sld hx hb hX hbl hbA w.2.2.1 (vpi (by decide) (by decide)) dL_law_987 ?_
  refine r_val (v := xs 1) (congrArg xs (show (1 : Int32).toNatClampNeg = 1 by decide)) ?_
  refine x_Vi F w (As := [.int (xs 1)]) (rest := [.int (-1)]) (a := 146) (by decide) (sh_12 rfl _ _) rfl (c_X12_orders_344 h0) gv_L_126 hv_X12_orders ⟨Nat.le_of_ble_eq_true rfl, Nat.le_of_ble_eq_true rfl⟩ hl.1 rfl (Nat.le_of_ble_eq_true rfl) ⟨Nat.le_of_ble_eq_true rfl, Nat.le_of_ble_eq_true rfl⟩ dL_law_988 (fun H locs w => ?_)
  refine lv_icmp_eq (tgt := 1065) hx hb dL_law_991 (by decide) (fun _ => ?_) (fun c1 => absurd c1 (by decide))
  exact kk _ _ _ w
theorem dX11_orders_4 : decode cX11_orders 4 = .ok (.iload_n 1, 1) := by decide +kernel
theorem dX11_orders_5 : decode cX11_orders 5 = .ok (.iconst 1, 1) := by decide +kernel
theorem dX11_orders_6 : decode cX11_orders 6 = .ok (.if_icmp .le 5, 3) := by decide +kernel
theorem dX11_orders_11 : decode cX11_orders 11 = .ok (.aload_n 0, 1) := by decide +kernel
theorem dX11_orders_12 : decode cX11_orders 12 = .ok (.getfield 35, 3) := by decide +kernel
theorem dX11_orders_15 : decode cX11_orders 15 = .ok (.getfield 118, 3) := by decide +kernel
theorem dX11_orders_18 : decode cX11_orders 18 = .ok (.bipush 6, 2) := by decide +kernel
theorem dX11_orders_20 : decode cX11_orders 20 = .ok (.if_icmp .le 6, 3) := by decide +kernel
theorem dX11_orders_26 : decode cX11_orders 26 = .ok (.aload_n 0, 1) := by decide +kernel
theorem dX11_orders_27 : decode cX11_orders 27 = .ok (.getfield 54, 3) := by decide +kernel
theorem dX11_orders_30 : decode cX11_orders 30 = .ok (.getfield 271, 3) := by decide +kernel
theorem dX11_orders_33 : decode cX11_orders 33 = .ok (.ifCond .ne 28, 3) := by decide +kernel
theorem dX11_orders_36 : decode cX11_orders 36 = .ok (.aload_n 0, 1) := by decide +kernel
theorem dX11_orders_37 : decode cX11_orders 37 = .ok (.getfield 54, 3) := by decide +kernel
theorem dX11_orders_40 : decode cX11_orders 40 = .ok (.aload_n 0, 1) := by decide +kernel
theorem dX11_orders_41 : decode cX11_orders 41 = .ok (.getfield 35, 3) := by decide +kernel
theorem dX11_orders_44 : decode cX11_orders 44 = .ok (.aload_n 0, 1) := by decide +kernel
theorem dX11_orders_45 : decode cX11_orders 45 = .ok (.getfield 35, 3) := by decide +kernel
theorem dX11_orders_48 : decode cX11_orders 48 = .ok (.aload_n 0, 1) := by decide +kernel
theorem dX11_orders_49 : decode cX11_orders 49 = .ok (.getfield 35, 3) := by decide +kernel
theorem dX11_orders_52 : decode cX11_orders 52 = .ok (.getfield 118, 3) := by decide +kernel
theorem dX11_orders_55 : decode cX11_orders 55 = .ok (.invokevirtual 196, 3) := by decide +kernel
theorem dX11_orders_58 : decode cX11_orders 58 = .ok (.invokevirtual 275, 3) := by decide +kernel
theorem dX3_reckon_0 : decode cX3_reckon 0 = .ok (.aload_n 1, 1) := by decide +kernel
theorem dX3_reckon_1 : decode cX3_reckon 1 = .ok (.getfield 40, 3) := by decide +kernel
theorem tb_517 : Cond.fieldLink "ToneLines$Orders" 40 "ToneLines$Derivation" "size" "I" ∈ TB := tbm (tc1 (List.mem_of_getElem? (i := 171) rfl)) rfl
theorem dX3_reckon_4 : decode cX3_reckon 4 = .ok (.bipush 6, 2) := by decide +kernel
theorem dX3_reckon_6 : decode cX3_reckon 6 = .ok (.invokestatic 45, 3) := by decide +kernel
theorem tb_518 : Cond.methodLink "ToneLines$Orders" 45 yJ9_min_7cf53 ∈ TB := tbm (tc5 (List.mem_of_getElem? (i := 4) rfl)) rfl
theorem dX3_reckon_9 : decode cX3_reckon 9 = .ok (.istore_n 3, 1) := by decide +kernel
theorem dX3_reckon_10 : decode cX3_reckon 10 = .ok (.aload_n 2, 1) := by decide +kernel
theorem dX3_reckon_11 : decode cX3_reckon 11 = .ok (.invokevirtual 51, 3) := by decide +kernel
theorem dX9_kindsRead_0 : decode cX9_kindsRead 0 = .ok (.lconst 0, 1) := by decide +kernel
theorem dX9_kindsRead_1 : decode cX9_kindsRead 1 = .ok (.lstore_n 1, 1) := by decide +kernel
theorem dX9_kindsRead_2 : decode cX9_kindsRead 2 = .ok (.iconst 0, 1) := by decide +kernel
theorem dX9_kindsRead_3 : decode cX9_kindsRead 3 = .ok (.istore_n 3, 1) := by decide +kernel
theorem dX9_kindsRead_4 : decode cX9_kindsRead 4 = .ok (.iload_n 3, 1) := by decide +kernel
theorem dX9_kindsRead_5 : decode cX9_kindsRead 5 = .ok (.aload_n 0, 1) := by decide +kernel
theorem dX9_kindsRead_6 : decode cX9_kindsRead 6 = .ok (.getfield 9, 3) := by decide +kernel
theorem dX9_kindsRead_9 : decode cX9_kindsRead 9 = .ok (.if_icmp .ge 50, 3) := by decide +kernel
theorem dX9_kindsRead_59 : decode cX9_kindsRead 59 = .ok (.lload_n 1, 1) := by decide +kernel
theorem dX9_kindsRead_60 : decode cX9_kindsRead 60 = .ok (.lreturn, 1) := by decide +kernel
set_option maxRecDepth 4000 in
theorem c_X9_kindsRead_345 {l : Launch} {D : va_G} {B : Nat} {cy : Nat → ClassId} {M : Mem} (h0 : M.1 44 0 = 0) : Cl l D B cy yX9_kindsRead cX9_kindsRead 5 0 0 [.ref (B + 44)] M (fun r M1 => r = 0 ∧ M1 = M) := by
  refine s_any (by decide) (Nat.le_of_ble_eq_true rfl) ?_
  intro p e s m below meth c ls F hr hlocks w hl
  have F : CallFix p m c cX9_kindsRead 5 s _ TB RX9 := F
  have hx := F.1
  have hb := F.2.1
  have hl : lv_has ls 5 [(0, .ref (B + 44))] := hl
  refine lv_lconst (v := 0) hx hb dX9_kindsRead_0 (by decide) ?_
  refine lv_lstore_n (lv' := [(1, .long 0), (0, .ref (B + 44))]) hx hb dX9_kindsRead_1 rfl hl (by decide) rfl (fun ls hl => ?_)
  refine lv_iconst (v := 0) hx hb dX9_kindsRead_2 (by decide) ?_
  refine lv_istore_n (lv' := [(3, .int 0), (1, .long 0), (0, .ref (B + 44))]) hx hb dX9_kindsRead_3 rfl hl (by decide) rfl (fun ls hl => ?_)
  refine lv_iload_n hx hb dX9_kindsRead_4 rfl (lv_at hl 0 rfl) ?_
  refine lv_aload_n hx hb dX9_kindsRead_5 rfl (lv_at hl 2 rfl) ?_
  refine f_9_0 F w (a := 44) rfl tb_63 dX9_kindsRead_6 ?_
  refine r_val (v := 0) (h0) ?_
  refine lv_icmp_ge (tgt := 59) hx hb dX9_kindsRead_9 (by decide) (fun _ => ?_) (fun c1 => absurd c1 (by decide))
  refine lv_lload_n hx hb dX9_kindsRead_59 rfl (lv_at hl 1 rfl) ?_
  exact e_l F w hr hlocks ⟨rfl, rfl⟩ dX9_kindsRead_60
theorem tk_X9_kindsRead : Cond.code yX9_kindsRead cX9_kindsRead 5 (some .long) ∈ TB := tbm (tc4 (List.mem_of_getElem? (i := 226) rfl)) rfl
theorem gc_X9_kindsRead : GoodIn TB (cw yX9_kindsRead cX9_kindsRead 5 (some .long)) := goodIn_c2 tk_X9_kindsRead
theorem tb_519 : Cond.methodLink "ToneLines$Orders" 51 yX9_kindsRead ∈ TB := tbm (tc5 (List.mem_of_getElem? (i := 5) rfl)) rfl
theorem tb_520 : Cond.instanceMethod yX9_kindsRead ∈ TB := tbm (tc4 (List.mem_of_getElem? (i := 224) rfl)) rfl
theorem tb_521 : Cond.selects "ToneLines$Word" yX9_kindsRead yX9_kindsRead ∈ TB := tbm (tc4 (List.mem_of_getElem? (i := 225) rfl)) rfl
theorem gv_X3_51 : GoodIn TB (wsV RX3 51 RX9 yX9_kindsRead (cw yX9_kindsRead cX9_kindsRead 5 (some .long))) := goodIn_4 tb_519 tb_520 tb_521 tb_61 gc_X9_kindsRead
theorem hv_X9_kindsRead : yX9_kindsRead.cls = RX9 ∧ yX9_kindsRead.cls ≠ "java/lang/invoke/MethodHandle" ∧ yX9_kindsRead.cls ≠ "java/lang/invoke/VarHandle" ∧ (parseMethodDescriptor yX9_kindsRead.desc).map (fun d => d.parameters.length) = some 0 := by decide +kernel
theorem dX3_reckon_14 : decode cX3_reckon 14 = .ok (.lstore 4, 2) := by decide +kernel
theorem dX3_reckon_16 : decode cX3_reckon 16 = .ok (.aload_n 2, 1) := by decide +kernel
theorem dX3_reckon_17 : decode cX3_reckon 17 = .ok (.invokevirtual 54, 3) := by decide +kernel
theorem dX9_linesRead_0 : decode cX9_linesRead 0 = .ok (.lconst 0, 1) := by decide +kernel
theorem dX9_linesRead_1 : decode cX9_linesRead 1 = .ok (.lstore_n 1, 1) := by decide +kernel
theorem dX9_linesRead_2 : decode cX9_linesRead 2 = .ok (.iconst 0, 1) := by decide +kernel
theorem dX9_linesRead_3 : decode cX9_linesRead 3 = .ok (.istore_n 3, 1) := by decide +kernel
theorem dX9_linesRead_4 : decode cX9_linesRead 4 = .ok (.iload_n 3, 1) := by decide +kernel
theorem dX9_linesRead_5 : decode cX9_linesRead 5 = .ok (.aload_n 0, 1) := by decide +kernel
theorem dX9_linesRead_6 : decode cX9_linesRead 6 = .ok (.getfield 9, 3) := by decide +kernel
theorem dX9_linesRead_9 : decode cX9_linesRead 9 = .ok (.if_icmp .ge 46, 3) := by decide +kernel
theorem dX9_linesRead_55 : decode cX9_linesRead 55 = .ok (.lload_n 1, 1) := by decide +kernel
theorem dX9_linesRead_56 : decode cX9_linesRead 56 = .ok (.lreturn, 1) := by decide +kernel
set_option maxRecDepth 4000 in
theorem c_X9_linesRead_346 {l : Launch} {D : va_G} {B : Nat} {cy : Nat → ClassId} {M : Mem} (h0 : M.1 44 0 = 0) : Cl l D B cy yX9_linesRead cX9_linesRead 5 0 0 [.ref (B + 44)] M (fun r M1 => r = 0 ∧ M1 = M) := by
  refine s_any (by decide) (Nat.le_of_ble_eq_true rfl) ?_
  intro p e s m below meth c ls F hr hlocks w hl
  have F : CallFix p m c cX9_linesRead 5 s _ TB RX9 := F
  have hx := F.1
  have hb := F.2.1
  have hl : lv_has ls 5 [(0, .ref (B + 44))] := hl
  refine lv_lconst (v := 0) hx hb dX9_linesRead_0 (by decide) ?_
  refine lv_lstore_n (lv' := [(1, .long 0), (0, .ref (B + 44))]) hx hb dX9_linesRead_1 rfl hl (by decide) rfl (fun ls hl => ?_)
  refine lv_iconst (v := 0) hx hb dX9_linesRead_2 (by decide) ?_
  refine lv_istore_n (lv' := [(3, .int 0), (1, .long 0), (0, .ref (B + 44))]) hx hb dX9_linesRead_3 rfl hl (by decide) rfl (fun ls hl => ?_)
  refine lv_iload_n hx hb dX9_linesRead_4 rfl (lv_at hl 0 rfl) ?_
  refine lv_aload_n hx hb dX9_linesRead_5 rfl (lv_at hl 2 rfl) ?_
  refine f_9_0 F w (a := 44) rfl tb_63 dX9_linesRead_6 ?_
  refine r_val (v := 0) (h0) ?_
  refine lv_icmp_ge (tgt := 55) hx hb dX9_linesRead_9 (by decide) (fun _ => ?_) (fun c1 => absurd c1 (by decide))
  refine lv_lload_n hx hb dX9_linesRead_55 rfl (lv_at hl 1 rfl) ?_
  exact e_l F w hr hlocks ⟨rfl, rfl⟩ dX9_linesRead_56
theorem tk_X9_linesRead : Cond.code yX9_linesRead cX9_linesRead 5 (some .long) ∈ TB := tbm (tc4 (List.mem_of_getElem? (i := 231) rfl)) rfl
theorem gc_X9_linesRead : GoodIn TB (cw yX9_linesRead cX9_linesRead 5 (some .long)) := goodIn_c2 tk_X9_linesRead
theorem tb_522 : Cond.methodLink "ToneLines$Orders" 54 yX9_linesRead ∈ TB := tbm (tc5 (List.mem_of_getElem? (i := 6) rfl)) rfl
theorem tb_523 : Cond.instanceMethod yX9_linesRead ∈ TB := tbm (tc4 (List.mem_of_getElem? (i := 229) rfl)) rfl
theorem tb_524 : Cond.selects "ToneLines$Word" yX9_linesRead yX9_linesRead ∈ TB := tbm (tc4 (List.mem_of_getElem? (i := 230) rfl)) rfl
theorem gv_X3_54 : GoodIn TB (wsV RX3 54 RX9 yX9_linesRead (cw yX9_linesRead cX9_linesRead 5 (some .long))) := goodIn_4 tb_522 tb_523 tb_524 tb_61 gc_X9_linesRead
theorem hv_X9_linesRead : yX9_linesRead.cls = RX9 ∧ yX9_linesRead.cls ≠ "java/lang/invoke/MethodHandle" ∧ yX9_linesRead.cls ≠ "java/lang/invoke/VarHandle" ∧ (parseMethodDescriptor yX9_linesRead.desc).map (fun d => d.parameters.length) = some 0 := by decide +kernel
theorem dX3_reckon_20 : decode cX3_reckon 20 = .ok (.lstore 6, 2) := by decide +kernel
theorem dX3_reckon_22 : decode cX3_reckon 22 = .ok (.aload_n 0, 1) := by decide +kernel
theorem dX3_reckon_23 : decode cX3_reckon 23 = .ok (.getfield 28, 3) := by decide +kernel
theorem dX3_reckon_26 : decode cX3_reckon 26 = .ok (.iload_n 3, 1) := by decide +kernel
theorem dX3_reckon_27 : decode cX3_reckon 27 = .ok (.aaload, 1) := by decide +kernel
theorem dX3_reckon_28 : decode cX3_reckon 28 = .ok (.astore 8, 2) := by decide +kernel
theorem dX3_reckon_30 : decode cX3_reckon 30 = .ok (.iconst 0, 1) := by decide +kernel
theorem dX3_reckon_31 : decode cX3_reckon 31 = .ok (.istore 9, 2) := by decide +kernel
theorem dX3_reckon_33 : decode cX3_reckon 33 = .ok (.iload 9, 2) := by decide +kernel
theorem dX3_reckon_35 : decode cX3_reckon 35 = .ok (.iload_n 3, 1) := by decide +kernel
theorem dX3_reckon_36 : decode cX3_reckon 36 = .ok (.if_icmp .ge 18, 3) := by decide +kernel
theorem dX3_reckon_54 : decode cX3_reckon 54 = .ok (.aload_n 0, 1) := by decide +kernel
theorem dX3_reckon_55 : decode cX3_reckon 55 = .ok (.getfield 28, 3) := by decide +kernel
theorem dX3_reckon_58 : decode cX3_reckon 58 = .ok (.iconst 0, 1) := by decide +kernel
theorem dX3_reckon_59 : decode cX3_reckon 59 = .ok (.aaload, 1) := by decide +kernel
theorem dX3_reckon_60 : decode cX3_reckon 60 = .ok (.aload_n 1, 1) := by decide +kernel
theorem dX3_reckon_61 : decode cX3_reckon 61 = .ok (.getfield 56, 3) := by decide +kernel
theorem tb_525 : Cond.fieldLink "ToneLines$Orders" 56 "ToneLines$Derivation" "told" "LToneLines$Word;" ∈ TB := tbm (tc1 (List.mem_of_getElem? (i := 177) rfl)) rfl
theorem dX3_reckon_64 : decode cX3_reckon 64 = .ok (.invokevirtual 60, 3) := by decide +kernel
set_option maxRecDepth 4000 in
theorem c_X9_copySyllables_347 {l : Launch} {D : va_G} {B : Nat} {cy : Nat → ClassId} {M : Mem} (h0 : M.1 44 1 = 0) (h1 : M.1 114 1 = 0) (h2 : M.1 44 2 = 0) (h3 : M.1 114 2 = 0) (h4 : M.1 44 3 = 0) (h5 : M.1 114 3 = 0) : Cv l D B cy yX9_copySyllables cX9_copySyllables 2 0 0 [.ref (B + 114), .ref (B + 44)] M (fun M1 => M1 = M) := by
  refine s_any (by decide) (Nat.le_of_ble_eq_true rfl) ?_
  intro p e s m below meth c ls F hr hlocks w hl
  have F : CallFix p m c cX9_copySyllables 2 s _ TB RX9 := F
  have hx := F.1
  have hb := F.2.1
  have hl : lv_has ls 2 [(0, .ref (B + 114)), (1, .ref (B + 44))] := hl
  refine lv_aload_n hx hb dX9_copySyllables_0 rfl (lv_at hl 0 rfl) ?_
  refine lv_aload_n hx hb dX9_copySyllables_1 rfl (lv_at hl 1 rfl) ?_
  refine f_9_1 F w (a := 44) rfl tb_64 dX9_copySyllables_2 ?_
  refine r_val (v := 0) (h0) ?_
  refine u_9_1 F w (a := 114) rfl tb_64 dX9_copySyllables_5 (fun H locs w => ?_)
  rw [st_same (h1)] at w
  refine lv_aload_n hx hb dX9_copySyllables_8 rfl (lv_at hl 0 rfl) ?_
  refine lv_aload_n hx hb dX9_copySyllables_9 rfl (lv_at hl 1 rfl) ?_
  refine f_9_2 F w (a := 44) rfl tb_65 dX9_copySyllables_10 ?_
  refine r_val (v := 0) (h2) ?_
  refine u_9_2 F w (a := 114) rfl tb_65 dX9_copySyllables_13 (fun H locs w => ?_)
  rw [st_same (h3)] at w
  refine lv_aload_n hx hb dX9_copySyllables_16 rfl (lv_at hl 0 rfl) ?_
  refine lv_aload_n hx hb dX9_copySyllables_17 rfl (lv_at hl 1 rfl) ?_
  refine f_9_3 F w (a := 44) rfl tb_66 dX9_copySyllables_18 ?_
  refine r_val (v := 0) (h4) ?_
  refine u_9_3 F w (a := 114) rfl tb_66 dX9_copySyllables_21 (fun H locs w => ?_)
  rw [st_same (h5)] at w
  exact e_v F w hr hlocks rfl dX9_copySyllables_24
set_option maxRecDepth 4000 in
theorem c_X9_copyFrom_348 {l : Launch} {D : va_G} {B : Nat} {cy : Nat → ClassId} {M : Mem} (h0 : M.1 44 1 = 0) (h1 : M.1 114 1 = 0) (h2 : M.1 44 2 = 0) (h3 : M.1 114 2 = 0) (h4 : M.1 44 3 = 0) (h5 : M.1 114 3 = 0) (h6 : M.1 44 0 = 0) (h7 : M.1 114 0 = 0) (h8 : ∀ k, k < 12 → M.1 45 k = 0) (h9 : ∀ k, k < 12 → M.1 115 k = 0) (h10 : ∀ k, k < 12 → M.1 46 k = 0) (h11 : ∀ k, k < 12 → M.1 116 k = 0) : Cv l D B cy yX9_copyFrom cX9_copyFrom 2 1 40 [.ref (B + 114), .ref (B + 44)] M (fun M1 => M1 = M) := by
  refine s_any (by decide) (Nat.le_of_ble_eq_true rfl) ?_
  intro p e s m below meth c ls F hr hlocks w hl
  have F : CallFix p m c cX9_copyFrom 2 s _ TB RX9 := F
  have hx := F.1
  have hb := F.2.1
  have hl : lv_has ls 2 [(0, .ref (B + 114)), (1, .ref (B + 44))] := hl
  refine lv_aload_n hx hb dX9_copyFrom_0 rfl (lv_at hl 0 rfl) ?_
  refine lv_aload_n hx hb dX9_copyFrom_1 rfl (lv_at hl 1 rfl) ?_
  refine x_Vv F w (As := [.ref (B + 44)]) (rest := []) (a := 114) (by decide) (sh_9 rfl _ _) rfl (c_X9_copySyllables_347 (h0) (h1) (h2) (h3) (h4) (h5)) gv_X9_31 hv_X9_copySyllables ⟨Nat.le_of_ble_eq_true rfl, Nat.le_of_ble_eq_true rfl⟩ hl.1 rfl (Nat.le_of_ble_eq_true rfl) ⟨Nat.zero_le _, Nat.zero_le _⟩ dX9_copyFrom_2 (fun H locs w => ?_)
  refine lv_aload_n hx hb dX9_copyFrom_5 rfl (lv_at hl 0 rfl) ?_
  refine lv_aload_n hx hb dX9_copyFrom_6 rfl (lv_at hl 1 rfl) ?_
  refine f_9_0 F w (a := 44) rfl tb_63 dX9_copyFrom_7 ?_
  refine r_val (v := 0) (h6) ?_
  refine u_9_0 F w (a := 114) rfl tb_63 dX9_copyFrom_10 (fun H locs w => ?_)
  rw [st_same (h7)] at w
  refine lv_aload_n hx hb dX9_copyFrom_13 rfl (lv_at hl 1 rfl) ?_
  refine f_9_4 F w (a := 44) rfl tb_67 dX9_copyFrom_14 ?_
  refine lv_iconst (v := 0) hx hb dX9_copyFrom_17 (by decide) ?_
  refine lv_aload_n hx hb dX9_copyFrom_18 rfl (lv_at hl 0 rfl) ?_
  refine f_9_4 F w (a := 114) rfl tb_67 dX9_copyFrom_19 ?_
  refine lv_iconst (v := 0) hx hb dX9_copyFrom_22 (by decide) ?_
  refine lv_bipush (v := 12) hx hb dX9_copyFrom_23 (by decide) ?_
  refine g_copyi F w (a0 := 45) (a1 := 115) rfl rfl hl.1 tb_266 tb_267 tb_268 tb_269 (by decide) (by decide) (by decide) (by decide) (by decide) (Nat.le_of_ble_eq_true rfl) (Nat.le_of_ble_eq_true rfl) dX9_copyFrom_25 (fun H locs w => ?_)
  have w := (show _ = _ from cp_same (M := M) (a0 := 45) (a1 := 115) (n := 12) (fun k hk => ((fun k hk => (h8 k hk)) k hk).trans ((fun k hk => (h9 k hk)) k hk).symm)) ▸ w
  refine lv_aload_n hx hb dX9_copyFrom_28 rfl (lv_at hl 1 rfl) ?_
  refine f_9_5 F w (a := 44) rfl tb_68 dX9_copyFrom_29 ?_
  refine lv_iconst (v := 0) hx hb dX9_copyFrom_32 (by decide) ?_
  refine lv_aload_n hx hb dX9_copyFrom_33 rfl (lv_at hl 0 rfl) ?_
  refine f_9_5 F w (a := 114) rfl tb_68 dX9_copyFrom_34 ?_
  refine lv_iconst (v := 0) hx hb dX9_copyFrom_37 (by decide) ?_
  refine lv_bipush (v := 12) hx hb dX9_copyFrom_38 (by decide) ?_
  refine g_copyi F w (a0 := 46) (a1 := 116) rfl rfl hl.1 tb_266 tb_267 tb_268 tb_269 (by decide) (by decide) (by decide) (by decide) (by decide) (Nat.le_of_ble_eq_true rfl) (Nat.le_of_ble_eq_true rfl) dX9_copyFrom_40 (fun H locs w => ?_)
  have w := (show _ = _ from cp_same (M := M) (a0 := 46) (a1 := 116) (n := 12) (fun k hk => ((fun k hk => (h10 k hk)) k hk).trans ((fun k hk => (h11 k hk)) k hk).symm)) ▸ w
  exact e_v F w hr hlocks rfl dX9_copyFrom_43
theorem tb_526 : Cond.methodLink "ToneLines$Orders" 60 yX9_copyFrom ∈ TB := tbm (tc5 (List.mem_of_getElem? (i := 7) rfl)) rfl
theorem gv_X3_60 : GoodIn TB (wsV RX3 60 RX9 yX9_copyFrom (cw yX9_copyFrom cX9_copyFrom 2 none)) := goodIn_4 tb_526 tb_271 tb_272 tb_61 gc_X9_copyFrom
theorem dX3_reckon_67 : decode cX3_reckon 67 = .ok (.aload_n 0, 1) := by decide +kernel
theorem dX3_reckon_68 : decode cX3_reckon 68 = .ok (.iconst 0, 1) := by decide +kernel
theorem dX3_reckon_69 : decode cX3_reckon 69 = .ok (.putfield 15, 3) := by decide +kernel
theorem dX3_reckon_72 : decode cX3_reckon 72 = .ok (.aload_n 0, 1) := by decide +kernel
theorem dX3_reckon_73 : decode cX3_reckon 73 = .ok (.iconst 0, 1) := by decide +kernel
theorem dX3_reckon_74 : decode cX3_reckon 74 = .ok (.putfield 19, 3) := by decide +kernel
theorem dX3_reckon_77 : decode cX3_reckon 77 = .ok (.iconst 0, 1) := by decide +kernel
theorem dX3_reckon_78 : decode cX3_reckon 78 = .ok (.istore 9, 2) := by decide +kernel
theorem dX3_reckon_80 : decode cX3_reckon 80 = .ok (.iconst 0, 1) := by decide +kernel
theorem dX3_reckon_81 : decode cX3_reckon 81 = .ok (.istore 10, 2) := by decide +kernel
theorem dX3_reckon_83 : decode cX3_reckon 83 = .ok (.iload 10, 2) := by decide +kernel
theorem dX3_reckon_85 : decode cX3_reckon 85 = .ok (.sipush 720, 3) := by decide +kernel
theorem dX3_reckon_88 : decode cX3_reckon 88 = .ok (.if_icmp .ge 138, 3) := by decide +kernel
theorem dX3_reckon_91 : decode cX3_reckon 91 = .ok (.iload 9, 2) := by decide +kernel
theorem dX3_reckon_93 : decode cX3_reckon 93 = .ok (.iconst (-1), 1) := by decide +kernel
theorem dX3_reckon_94 : decode cX3_reckon 94 = .ok (.if_icmp .eq 132, 3) := by decide +kernel
theorem dX3_reckon_97 : decode cX3_reckon 97 = .ok (.iload 9, 2) := by decide +kernel
theorem dX3_reckon_99 : decode cX3_reckon 99 = .ok (.istore 11, 2) := by decide +kernel
theorem dX3_reckon_101 : decode cX3_reckon 101 = .ok (.iload 11, 2) := by decide +kernel
theorem dX3_reckon_103 : decode cX3_reckon 103 = .ok (.iload_n 3, 1) := by decide +kernel
theorem dX3_reckon_104 : decode cX3_reckon 104 = .ok (.if_icmp .ge 57, 3) := by decide +kernel
theorem dX3_reckon_161 : decode cX3_reckon 161 = .ok (.aload 8, 2) := by decide +kernel
theorem dX3_reckon_163 : decode cX3_reckon 163 = .ok (.invokevirtual 51, 3) := by decide +kernel
set_option maxRecDepth 4000 in
theorem c_X9_kindsRead_349 {l : Launch} {D : va_G} {B : Nat} {cy : Nat → ClassId} {M : Mem} (h0 : M.1 114 0 = 0) : Cl l D B cy yX9_kindsRead cX9_kindsRead 5 0 0 [.ref (B + 114)] M (fun r M1 => r = 0 ∧ M1 = M) := by
  refine s_any (by decide) (Nat.le_of_ble_eq_true rfl) ?_
  intro p e s m below meth c ls F hr hlocks w hl
  have F : CallFix p m c cX9_kindsRead 5 s _ TB RX9 := F
  have hx := F.1
  have hb := F.2.1
  have hl : lv_has ls 5 [(0, .ref (B + 114))] := hl
  refine lv_lconst (v := 0) hx hb dX9_kindsRead_0 (by decide) ?_
  refine lv_lstore_n (lv' := [(1, .long 0), (0, .ref (B + 114))]) hx hb dX9_kindsRead_1 rfl hl (by decide) rfl (fun ls hl => ?_)
  refine lv_iconst (v := 0) hx hb dX9_kindsRead_2 (by decide) ?_
  refine lv_istore_n (lv' := [(3, .int 0), (1, .long 0), (0, .ref (B + 114))]) hx hb dX9_kindsRead_3 rfl hl (by decide) rfl (fun ls hl => ?_)
  refine lv_iload_n hx hb dX9_kindsRead_4 rfl (lv_at hl 0 rfl) ?_
  refine lv_aload_n hx hb dX9_kindsRead_5 rfl (lv_at hl 2 rfl) ?_
  refine f_9_0 F w (a := 114) rfl tb_63 dX9_kindsRead_6 ?_
  refine r_val (v := 0) (h0) ?_
  refine lv_icmp_ge (tgt := 59) hx hb dX9_kindsRead_9 (by decide) (fun _ => ?_) (fun c1 => absurd c1 (by decide))
  refine lv_lload_n hx hb dX9_kindsRead_59 rfl (lv_at hl 1 rfl) ?_
  exact e_l F w hr hlocks ⟨rfl, rfl⟩ dX9_kindsRead_60
theorem dX3_reckon_166 : decode cX3_reckon 166 = .ok (.lstore 11, 2) := by decide +kernel
theorem dX3_reckon_168 : decode cX3_reckon 168 = .ok (.aload 8, 2) := by decide +kernel
theorem dX3_reckon_170 : decode cX3_reckon 170 = .ok (.invokevirtual 54, 3) := by decide +kernel
set_option maxRecDepth 4000 in
theorem c_X9_linesRead_350 {l : Launch} {D : va_G} {B : Nat} {cy : Nat → ClassId} {M : Mem} (h0 : M.1 114 0 = 0) : Cl l D B cy yX9_linesRead cX9_linesRead 5 0 0 [.ref (B + 114)] M (fun r M1 => r = 0 ∧ M1 = M) := by
  refine s_any (by decide) (Nat.le_of_ble_eq_true rfl) ?_
  intro p e s m below meth c ls F hr hlocks w hl
  have F : CallFix p m c cX9_linesRead 5 s _ TB RX9 := F
  have hx := F.1
  have hb := F.2.1
  have hl : lv_has ls 5 [(0, .ref (B + 114))] := hl
  refine lv_lconst (v := 0) hx hb dX9_linesRead_0 (by decide) ?_
  refine lv_lstore_n (lv' := [(1, .long 0), (0, .ref (B + 114))]) hx hb dX9_linesRead_1 rfl hl (by decide) rfl (fun ls hl => ?_)
  refine lv_iconst (v := 0) hx hb dX9_linesRead_2 (by decide) ?_
  refine lv_istore_n (lv' := [(3, .int 0), (1, .long 0), (0, .ref (B + 114))]) hx hb dX9_linesRead_3 rfl hl (by decide) rfl (fun ls hl => ?_)
  refine lv_iload_n hx hb dX9_linesRead_4 rfl (lv_at hl 0 rfl) ?_
  refine lv_aload_n hx hb dX9_linesRead_5 rfl (lv_at hl 2 rfl) ?_
  refine f_9_0 F w (a := 114) rfl tb_63 dX9_linesRead_6 ?_
  refine r_val (v := 0) (h0) ?_
  refine lv_icmp_ge (tgt := 55) hx hb dX9_linesRead_9 (by decide) (fun _ => ?_) (fun c1 => absurd c1 (by decide))
  refine lv_lload_n hx hb dX9_linesRead_55 rfl (lv_at hl 1 rfl) ?_
  exact e_l F w hr hlocks ⟨rfl, rfl⟩ dX9_linesRead_56
theorem dX3_reckon_173 : decode cX3_reckon 173 = .ok (.lstore 13, 2) := by decide +kernel
theorem dX3_reckon_175 : decode cX3_reckon 175 = .ok (.aload_n 0, 1) := by decide +kernel
theorem dX3_reckon_176 : decode cX3_reckon 176 = .ok (.lload 11, 2) := by decide +kernel
theorem dX3_reckon_178 : decode cX3_reckon 178 = .ok (.lload 13, 2) := by decide +kernel
theorem dX3_reckon_180 : decode cX3_reckon 180 = .ok (.invokevirtual 78, 3) := by decide +kernel
theorem dX3_enter_0 : decode cX3_enter 0 = .ok (.iconst 0, 1) := by decide +kernel
theorem dX3_enter_1 : decode cX3_enter 1 = .ok (.istore 5, 2) := by decide +kernel
theorem dX3_enter_3 : decode cX3_enter 3 = .ok (.iload 5, 2) := by decide +kernel
theorem dX3_enter_5 : decode cX3_enter 5 = .ok (.aload_n 0, 1) := by decide +kernel
theorem dX3_enter_6 : decode cX3_enter 6 = .ok (.getfield 15, 3) := by decide +kernel
theorem dX3_enter_9 : decode cX3_enter 9 = .ok (.if_icmp .ge 34, 3) := by decide +kernel
theorem dX3_enter_43 : decode cX3_enter 43 = .ok (.aload_n 0, 1) := by decide +kernel
theorem dX3_enter_44 : decode cX3_enter 44 = .ok (.getfield 15, 3) := by decide +kernel
theorem dX3_enter_47 : decode cX3_enter 47 = .ok (.sipush 720, 3) := by decide +kernel
theorem dX3_enter_50 : decode cX3_enter 50 = .ok (.if_icmp .ge 33, 3) := by decide +kernel
theorem dX3_enter_53 : decode cX3_enter 53 = .ok (.aload_n 0, 1) := by decide +kernel
theorem dX3_enter_54 : decode cX3_enter 54 = .ok (.getfield 32, 3) := by decide +kernel
theorem dX3_enter_57 : decode cX3_enter 57 = .ok (.aload_n 0, 1) := by decide +kernel
theorem dX3_enter_58 : decode cX3_enter 58 = .ok (.getfield 15, 3) := by decide +kernel
theorem dX3_enter_61 : decode cX3_enter 61 = .ok (.lload_n 1, 1) := by decide +kernel
theorem dX3_enter_62 : decode cX3_enter 62 = .ok (.lastore, 1) := by decide +kernel
theorem dX3_enter_63 : decode cX3_enter 63 = .ok (.aload_n 0, 1) := by decide +kernel
theorem dX3_enter_64 : decode cX3_enter 64 = .ok (.getfield 36, 3) := by decide +kernel
theorem dX3_enter_67 : decode cX3_enter 67 = .ok (.aload_n 0, 1) := by decide +kernel
theorem dX3_enter_68 : decode cX3_enter 68 = .ok (.getfield 15, 3) := by decide +kernel
theorem dX3_enter_71 : decode cX3_enter 71 = .ok (.lload_n 3, 1) := by decide +kernel
theorem dX3_enter_72 : decode cX3_enter 72 = .ok (.lastore, 1) := by decide +kernel
theorem dX3_enter_73 : decode cX3_enter 73 = .ok (.aload_n 0, 1) := by decide +kernel
theorem dX3_enter_74 : decode cX3_enter 74 = .ok (.dup, 1) := by decide +kernel
theorem dX3_enter_75 : decode cX3_enter 75 = .ok (.getfield 15, 3) := by decide +kernel
theorem dX3_enter_78 : decode cX3_enter 78 = .ok (.iconst 1, 1) := by decide +kernel
theorem dX3_enter_79 : decode cX3_enter 79 = .ok (.iadd, 1) := by decide +kernel
theorem dX3_enter_80 : decode cX3_enter 80 = .ok (.putfield 15, 3) := by decide +kernel
theorem dX3_enter_83 : decode cX3_enter 83 = .ok (.return_, 1) := by decide +kernel
set_option maxRecDepth 4000 in
theorem c_X3_enter_351 {l : Launch} {D : va_G} {B : Nat} {cy : Nat → ClassId} {M : Mem} (h0 : M.1 109 1 = 0) (h1 : M.2 112 0 = 0) (h2 : M.2 113 0 = 0) : Cv l D B cy yX3_enter cX3_enter 6 0 0 [.ref (B + 109), .long 0, .long 0] M (fun M1 => M1 = (st M 109 1 1)) := by
  refine s_any (by decide) (Nat.le_of_ble_eq_true rfl) ?_
  intro p e s m below meth c ls F hr hlocks w hl
  have F : CallFix p m c cX3_enter 6 s _ TB RX3 := F
  have hx := F.1
  have hb := F.2.1
  have hl : lv_has ls 6 [(0, .ref (B + 109)), (1, .long 0), (3, .long 0)] := hl
  refine lv_iconst (v := 0) hx hb dX3_enter_0 (by decide) ?_
  refine lv_istore (lv' := [(5, .int 0), (0, .ref (B + 109)), (1, .long 0), (3, .long 0)]) hx hb dX3_enter_1 hl (by decide) rfl (fun ls hl => ?_)
  refine lv_iload hx hb dX3_enter_3 (lv_at hl 0 rfl) ?_
  refine lv_aload_n hx hb dX3_enter_5 rfl (lv_at hl 1 rfl) ?_
  refine f_3_1 F w (a := 109) rfl tb_92 dX3_enter_6 ?_
  refine r_val (v := 0) (h0) ?_
  refine lv_icmp_ge (tgt := 43) hx hb dX3_enter_9 (by decide) (fun _ => ?_) (fun c1 => absurd c1 (by decide))
  refine lv_aload_n hx hb dX3_enter_43 rfl (lv_at hl 1 rfl) ?_
  refine f_3_1 F w (a := 109) rfl tb_92 dX3_enter_44 ?_
  refine r_val (v := 0) (h0) ?_
  refine lv_sipush (v := 720) hx hb dX3_enter_47 (by decide) ?_
  refine lv_icmp_ge (tgt := 83) hx hb dX3_enter_50 (by decide) (fun c1 => absurd c1 (by decide)) (fun _ => ?_)
  refine lv_aload_n hx hb dX3_enter_53 rfl (lv_at hl 1 rfl) ?_
  refine f_3_5 F w (a := 109) rfl tb_98 dX3_enter_54 ?_
  refine lv_aload_n hx hb dX3_enter_57 rfl (lv_at hl 1 rfl) ?_
  refine f_3_1 F w (a := 109) rfl tb_92 dX3_enter_58 ?_
  refine r_val (v := 0) (h0) ?_
  refine lv_lload_n hx hb dX3_enter_61 rfl (lv_at hl 2 rfl) ?_
  refine g_last F w (a := 112) rfl (j := 0) ⟨by decide, by decide⟩ (by decide) dX3_enter_62 (fun H locs w => ?_)
  rw [sL_same (M := M) h1] at w
  refine lv_aload_n hx hb dX3_enter_63 rfl (lv_at hl 1 rfl) ?_
  refine f_3_6 F w (a := 109) rfl tb_99 dX3_enter_64 ?_
  refine lv_aload_n hx hb dX3_enter_67 rfl (lv_at hl 1 rfl) ?_
  refine f_3_1 F w (a := 109) rfl tb_92 dX3_enter_68 ?_
  refine r_val (v := 0) (h0) ?_
  refine lv_lload_n hx hb dX3_enter_71 rfl (lv_at hl 3 rfl) ?_
  refine g_last F w (a := 113) rfl (j := 0) ⟨by decide, by decide⟩ (by decide) dX3_enter_72 (fun H locs w => ?_)
  rw [sL_same (M := M) h2] at w
  refine lv_aload_n hx hb dX3_enter_73 rfl (lv_at hl 1 rfl) ?_
  refine lv_dup hx hb dX3_enter_74 rfl ?_
  refine f_3_1 F w (a := 109) rfl tb_92 dX3_enter_75 ?_
  refine r_val (v := 0) (h0) ?_
  refine lv_iconst (v := 1) hx hb dX3_enter_78 (by decide) ?_
  refine lv_iadd hx hb dX3_enter_79 ?_
  refine r_val (v := 1) (by decide) ?_
  refine u_3_1 F w (a := 109) rfl tb_92 dX3_enter_80 (fun H locs w => ?_)
  exact e_v F w hr hlocks rfl dX3_enter_83
theorem tk_X3_enter : Cond.code yX3_enter cX3_enter 6 none ∈ TB := tbm (tc5 (List.mem_of_getElem? (i := 12) rfl)) rfl
theorem gc_X3_enter : GoodIn TB (cw yX3_enter cX3_enter 6 none) := goodIn_c2 tk_X3_enter
theorem tb_527 : Cond.methodLink "ToneLines$Orders" 78 yX3_enter ∈ TB := tbm (tc5 (List.mem_of_getElem? (i := 9) rfl)) rfl
theorem tb_528 : Cond.instanceMethod yX3_enter ∈ TB := tbm (tc5 (List.mem_of_getElem? (i := 11) rfl)) rfl
theorem tb_529 : Cond.selects "ToneLines$Orders" yX3_enter yX3_enter ∈ TB := tbp (List.mem_of_getElem? (i := 33) rfl) rfl
theorem gv_X3_78 : GoodIn TB (wsV RX3 78 RX3 yX3_enter (cw yX3_enter cX3_enter 6 none)) := goodIn_4 tb_527 tb_528 tb_529 tb_89 gc_X3_enter
theorem hv_X3_enter : yX3_enter.cls = RX3 ∧ yX3_enter.cls ≠ "java/lang/invoke/MethodHandle" ∧ yX3_enter.cls ≠ "java/lang/invoke/VarHandle" ∧ (parseMethodDescriptor yX3_enter.desc).map (fun d => d.parameters.length) = some 2 := by decide +kernel
theorem dX3_reckon_183 : decode cX3_reckon 183 = .ok (.aload_n 0, 1) := by decide +kernel
theorem dX3_reckon_184 : decode cX3_reckon 184 = .ok (.dup, 1) := by decide +kernel
theorem dX3_reckon_185 : decode cX3_reckon 185 = .ok (.getfield 19, 3) := by decide +kernel
theorem dX3_reckon_188 : decode cX3_reckon 188 = .ok (.lload 11, 2) := by decide +kernel
theorem dX3_reckon_190 : decode cX3_reckon 190 = .ok (.lload 4, 2) := by decide +kernel
theorem dX3_reckon_192 : decode cX3_reckon 192 = .ok (.lcmp, 1) := by decide +kernel
theorem dX3_reckon_193 : decode cX3_reckon 193 = .ok (.ifCond .ne 15, 3) := by decide +kernel
theorem dX3_reckon_196 : decode cX3_reckon 196 = .ok (.lload 13, 2) := by decide +kernel
theorem dX3_reckon_198 : decode cX3_reckon 198 = .ok (.lload 6, 2) := by decide +kernel
theorem dX3_reckon_200 : decode cX3_reckon 200 = .ok (.lcmp, 1) := by decide +kernel
theorem dX3_reckon_201 : decode cX3_reckon 201 = .ok (.ifCond .ne 7, 3) := by decide +kernel
theorem dX3_reckon_204 : decode cX3_reckon 204 = .ok (.iconst 1, 1) := by decide +kernel
theorem dX3_reckon_205 : decode cX3_reckon 205 = .ok (.goto 4, 3) := by decide +kernel
theorem dX3_reckon_209 : decode cX3_reckon 209 = .ok (.iadd, 1) := by decide +kernel
theorem dX3_reckon_210 : decode cX3_reckon 210 = .ok (.putfield 19, 3) := by decide +kernel
theorem dX3_reckon_213 : decode cX3_reckon 213 = .ok (.aload_n 0, 1) := by decide +kernel
theorem dX3_reckon_214 : decode cX3_reckon 214 = .ok (.iload_n 3, 1) := by decide +kernel
theorem dX3_reckon_215 : decode cX3_reckon 215 = .ok (.invokevirtual 82, 3) := by decide +kernel
theorem dX3_nextOrder_0 : decode cX3_nextOrder 0 = .ok (.iload_n 1, 1) := by decide +kernel
theorem dX3_nextOrder_1 : decode cX3_nextOrder 1 = .ok (.iconst 2, 1) := by decide +kernel
theorem dX3_nextOrder_2 : decode cX3_nextOrder 2 = .ok (.isub, 1) := by decide +kernel
theorem dX3_nextOrder_3 : decode cX3_nextOrder 3 = .ok (.istore_n 2, 1) := by decide +kernel
theorem dX3_nextOrder_4 : decode cX3_nextOrder 4 = .ok (.iload_n 2, 1) := by decide +kernel
theorem dX3_nextOrder_5 : decode cX3_nextOrder 5 = .ok (.ifCond .lt 26, 3) := by decide +kernel
theorem dX3_nextOrder_31 : decode cX3_nextOrder 31 = .ok (.iload_n 2, 1) := by decide +kernel
theorem dX3_nextOrder_32 : decode cX3_nextOrder 32 = .ok (.ifCond .ge 5, 3) := by decide +kernel
theorem dX3_nextOrder_35 : decode cX3_nextOrder 35 = .ok (.iconst (-1), 1) := by decide +kernel
theorem dX3_nextOrder_36 : decode cX3_nextOrder 36 = .ok (.ireturn, 1) := by decide +kernel
set_option maxRecDepth 4000 in
theorem c_X3_nextOrder_352 {l : Launch} {D : va_G} {B : Nat} {cy : Nat → ClassId} {M : Mem} : Ci l D B cy yX3_nextOrder cX3_nextOrder 6 (some .int) 0 0 [.ref (B + 109), .int 0] M (fun r M1 => r = (-1) ∧ M1 = M) := by
  refine s_any (by decide) (Nat.le_of_ble_eq_true rfl) ?_
  intro p e s m below meth c ls F hr hlocks w hl
  have F : CallFix p m c cX3_nextOrder 6 s _ TB RX3 := F
  have hx := F.1
  have hb := F.2.1
  have hl : lv_has ls 6 [(0, .ref (B + 109)), (1, .int 0)] := hl
  refine lv_iload_n hx hb dX3_nextOrder_0 rfl (lv_at hl 1 rfl) ?_
  refine lv_iconst (v := 2) hx hb dX3_nextOrder_1 (by decide) ?_
  refine lv_isub hx hb dX3_nextOrder_2 ?_
  refine r_val (v := (-2)) (by decide) ?_
  refine lv_istore_n (lv' := [(2, .int (-2)), (0, .ref (B + 109)), (1, .int 0)]) hx hb dX3_nextOrder_3 rfl hl (by decide) rfl (fun ls hl => ?_)
  refine lv_iload_n hx hb dX3_nextOrder_4 rfl (lv_at hl 0 rfl) ?_
  refine lv_if_lt (tgt := 31) hx hb dX3_nextOrder_5 (by decide) (fun _ => ?_) (fun c1 => absurd c1 (by decide))
  refine lv_iload_n hx hb dX3_nextOrder_31 rfl (lv_at hl 0 rfl) ?_
  refine lv_if_ge (tgt := 37) hx hb dX3_nextOrder_32 (by decide) (fun c1 => absurd c1 (by decide)) (fun _ => ?_)
  refine lv_iconst (v := (-1)) hx hb dX3_nextOrder_35 (by decide) ?_
  exact e_i F w hr hlocks ⟨rfl, rfl⟩ dX3_nextOrder_36
theorem tk_X3_nextOrder : Cond.code yX3_nextOrder cX3_nextOrder 6 (some .int) ∈ TB := tbm (tc5 (List.mem_of_getElem? (i := 16) rfl)) rfl
theorem gc_X3_nextOrder : GoodIn TB (cw yX3_nextOrder cX3_nextOrder 6 (some .int)) := goodIn_c2 tk_X3_nextOrder
theorem tb_530 : Cond.methodLink "ToneLines$Orders" 82 yX3_nextOrder ∈ TB := tbm (tc5 (List.mem_of_getElem? (i := 13) rfl)) rfl
theorem tb_531 : Cond.instanceMethod yX3_nextOrder ∈ TB := tbm (tc5 (List.mem_of_getElem? (i := 15) rfl)) rfl
theorem tb_532 : Cond.selects "ToneLines$Orders" yX3_nextOrder yX3_nextOrder ∈ TB := tbp (List.mem_of_getElem? (i := 34) rfl) rfl
theorem gv_X3_82 : GoodIn TB (wsV RX3 82 RX3 yX3_nextOrder (cw yX3_nextOrder cX3_nextOrder 6 (some .int))) := goodIn_4 tb_530 tb_531 tb_532 tb_89 gc_X3_nextOrder
theorem hv_X3_nextOrder : yX3_nextOrder.cls = RX3 ∧ yX3_nextOrder.cls ≠ "java/lang/invoke/MethodHandle" ∧ yX3_nextOrder.cls ≠ "java/lang/invoke/VarHandle" ∧ (parseMethodDescriptor yX3_nextOrder.desc).map (fun d => d.parameters.length) = some 1 := by decide +kernel
theorem dX3_reckon_218 : decode cX3_reckon 218 = .ok (.istore 9, 2) := by decide +kernel
theorem dX3_reckon_220 : decode cX3_reckon 220 = .ok (.iinc 10 1, 3) := by decide +kernel
theorem dX3_reckon_223 : decode cX3_reckon 223 = .ok (.goto (-140), 3) := by decide +kernel
theorem dX3_reckon_226 : decode cX3_reckon 226 = .ok (.aload_n 0, 1) := by decide +kernel
theorem dX3_reckon_227 : decode cX3_reckon 227 = .ok (.iconst 1, 1) := by decide +kernel
theorem dX3_reckon_228 : decode cX3_reckon 228 = .ok (.putfield 9, 3) := by decide +kernel
theorem dX3_reckon_231 : decode cX3_reckon 231 = .ok (.return_, 1) := by decide +kernel
set_option maxRecDepth 4000 in
theorem c_X3_reckon_353 {l : Launch} {D : va_G} {B : Nat} {cy : Nat → ClassId} {M : Mem} (h0 : M.1 22 2 = 0) (h1 : M.1 44 0 = 0) (h2 : M.1 44 1 = 0) (h3 : M.1 114 1 = 0) (h4 : M.1 44 2 = 0) (h5 : M.1 114 2 = 0) (h6 : M.1 44 3 = 0) (h7 : M.1 114 3 = 0) (h8 : M.1 114 0 = 0) (h9 : ∀ k, k < 12 → M.1 45 k = 0) (h10 : ∀ k, k < 12 → M.1 115 k = 0) (h11 : ∀ k, k < 12 → M.1 46 k = 0) (h12 : ∀ k, k < 12 → M.1 116 k = 0) (h13 : M.1 109 1 = 0) (h14 : M.1 109 2 = 0) (h15 : M.2 112 0 = 0) (h16 : M.2 113 0 = 0) (h17 : M.1 109 0 = 0) : Cv l D B cy yX3_reckon cX3_reckon 15 2 61 [.ref (B + 109), .ref (B + 22), .ref (B + 44)] M (fun M1 => M1 = (st (st (st M 109 1 1) 109 2 1) 109 0 1)) := by
  refine s_any (by decide) (Nat.le_of_ble_eq_true rfl) ?_
  intro p e s m below meth c ls F hr hlocks w hl
  have F : CallFix p m c cX3_reckon 15 s _ TB RX3 := F
  have hx := F.1
  have hb := F.2.1
  have hl : lv_has ls 15 [(0, .ref (B + 109)), (1, .ref (B + 22)), (2, .ref (B + 44))] := hl
  refine lv_aload_n hx hb dX3_reckon_0 rfl (lv_at hl 1 rfl) ?_
  refine f_0_2 F w (a := 22) rfl tb_517 dX3_reckon_1 ?_
  refine r_val (v := 0) (h0) ?_
  refine lv_bipush (v := 6) hx hb dX3_reckon_4 (by decide) ?_
  refine g_min F hl.1 tb_518 tb_204 tb_205 tq_min (Nat.le_of_ble_eq_true rfl) (Nat.le_of_ble_eq_true rfl) (Nat.zero_le _) (Nat.zero_le _) (v := 0) (by decide) dX3_reckon_6 ?_
  refine lv_istore_n (lv' := [(3, .int 0), (0, .ref (B + 109)), (1, .ref (B + 22)), (2, .ref (B + 44))]) hx hb dX3_reckon_9 rfl hl (by decide) rfl (fun ls hl => ?_)
  refine lv_aload_n hx hb dX3_reckon_10 rfl (lv_at hl 3 rfl) ?_
  refine x_Vl F w (As := []) (rest := []) (a := 44) (by decide) (sh_9 rfl _ _) rfl (c_X9_kindsRead_345 (h1)) gv_X3_51 hv_X9_kindsRead ⟨Nat.le_of_ble_eq_true rfl, Nat.le_of_ble_eq_true rfl⟩ hl.1 rfl (Nat.le_of_ble_eq_true rfl) ⟨Nat.zero_le _, Nat.zero_le _⟩ dX3_reckon_11 (fun H locs w => ?_)
  refine lv_lstore (lv' := [(4, .long 0), (3, .int 0), (0, .ref (B + 109)), (1, .ref (B + 22)), (2, .ref (B + 44))]) hx hb dX3_reckon_14 hl (by decide) rfl (fun ls hl => ?_)
  refine lv_aload_n hx hb dX3_reckon_16 rfl (lv_at hl 4 rfl) ?_
  refine x_Vl F w (As := []) (rest := []) (a := 44) (by decide) (sh_9 rfl _ _) rfl (c_X9_linesRead_346 (h1)) gv_X3_54 hv_X9_linesRead ⟨Nat.le_of_ble_eq_true rfl, Nat.le_of_ble_eq_true rfl⟩ hl.1 rfl (Nat.le_of_ble_eq_true rfl) ⟨Nat.zero_le _, Nat.zero_le _⟩ dX3_reckon_17 (fun H locs w => ?_)
  refine lv_lstore (lv' := [(6, .long 0), (4, .long 0), (3, .int 0), (0, .ref (B + 109)), (1, .ref (B + 22)), (2, .ref (B + 44))]) hx hb dX3_reckon_20 hl (by decide) rfl (fun ls hl => ?_)
  refine lv_aload_n hx hb dX3_reckon_22 rfl (lv_at hl 3 rfl) ?_
  refine f_3_4 F w (a := 109) rfl tb_96 dX3_reckon_23 ?_
  refine lv_iload_n hx hb dX3_reckon_26 rfl (lv_at hl 2 rfl) ?_
  refine g_aldW F w (a := 111) rfl (j := 0) (o := 114) rfl ⟨by decide, by decide⟩ (by decide) dX3_reckon_27 ?_
  refine lv_astore (lv' := [(8, .ref (B + 114)), (6, .long 0), (4, .long 0), (3, .int 0), (0, .ref (B + 109)), (1, .ref (B + 22)), (2, .ref (B + 44))]) hx hb dX3_reckon_28 hl (by decide) rfl (fun ls hl => ?_)
  refine lv_iconst (v := 0) hx hb dX3_reckon_30 (by decide) ?_
  refine lv_istore (lv' := [(9, .int 0), (8, .ref (B + 114)), (6, .long 0), (4, .long 0), (3, .int 0), (0, .ref (B + 109)), (1, .ref (B + 22)), (2, .ref (B + 44))]) hx hb dX3_reckon_31 hl (by decide) rfl (fun ls hl => ?_)
  refine lv_iload hx hb dX3_reckon_33 (lv_at hl 0 rfl) ?_
  refine lv_iload_n hx hb dX3_reckon_35 rfl (lv_at hl 4 rfl) ?_
  refine lv_icmp_ge (tgt := 54) hx hb dX3_reckon_36 (by decide) (fun _ => ?_) (fun c1 => absurd c1 (by decide))
  refine lv_aload_n hx hb dX3_reckon_54 rfl (lv_at hl 5 rfl) ?_
  refine f_3_4 F w (a := 109) rfl tb_96 dX3_reckon_55 ?_
  refine lv_iconst (v := 0) hx hb dX3_reckon_58 (by decide) ?_
  refine g_aldW F w (a := 111) rfl (j := 0) (o := 114) rfl ⟨by decide, by decide⟩ (by decide) dX3_reckon_59 ?_
  refine lv_aload_n hx hb dX3_reckon_60 rfl (lv_at hl 6 rfl) ?_
  refine f_0_4 F w (a := 22) rfl tb_525 dX3_reckon_61 ?_
  refine x_Vv F w (As := [.ref (B + 44)]) (rest := []) (a := 114) (by decide) (sh_9 rfl _ _) rfl (c_X9_copyFrom_348 (h2) (h3) (h4) (h5) (h6) (h7) (h1) (h8) (fun k hk => (h9 k hk)) (fun k hk => (h10 k hk)) (fun k hk => (h11 k hk)) (fun k hk => (h12 k hk))) gv_X3_60 hv_X9_copyFrom ⟨Nat.le_of_ble_eq_true rfl, Nat.le_of_ble_eq_true rfl⟩ hl.1 rfl (Nat.le_of_ble_eq_true rfl) ⟨Nat.zero_le _, Nat.zero_le _⟩ dX3_reckon_64 (fun H locs w => ?_)
  refine lv_aload_n hx hb dX3_reckon_67 rfl (lv_at hl 5 rfl) ?_
  refine lv_iconst (v := 0) hx hb dX3_reckon_68 (by decide) ?_
  refine u_3_1 F w (a := 109) rfl tb_92 dX3_reckon_69 (fun H locs w => ?_)
  rw [st_same (h13)] at w
  refine lv_aload_n hx hb dX3_reckon_72 rfl (lv_at hl 5 rfl) ?_
  refine lv_iconst (v := 0) hx hb dX3_reckon_73 (by decide) ?_
  refine u_3_2 F w (a := 109) rfl tb_93 dX3_reckon_74 (fun H locs w => ?_)
  rw [st_same (h14)] at w
  refine lv_iconst (v := 0) hx hb dX3_reckon_77 (by decide) ?_
  refine lv_istore (lv' := [(9, .int 0), (8, .ref (B + 114)), (6, .long 0), (4, .long 0), (3, .int 0), (0, .ref (B + 109)), (1, .ref (B + 22)), (2, .ref (B + 44))]) hx hb dX3_reckon_78 hl (by decide) rfl (fun ls hl => ?_)
  refine lv_iconst (v := 0) hx hb dX3_reckon_80 (by decide) ?_
  refine lv_istore (lv' := [(10, .int 0), (9, .int 0), (8, .ref (B + 114)), (6, .long 0), (4, .long 0), (3, .int 0), (0, .ref (B + 109)), (1, .ref (B + 22)), (2, .ref (B + 44))]) hx hb dX3_reckon_81 hl (by decide) rfl (fun ls hl => ?_)
  refine lv_iload hx hb dX3_reckon_83 (lv_at hl 0 rfl) ?_
  refine lv_sipush (v := 720) hx hb dX3_reckon_85 (by decide) ?_
  refine lv_icmp_ge (tgt := 226) hx hb dX3_reckon_88 (by decide) (fun c1 => absurd c1 (by decide)) (fun _ => ?_)
  refine lv_iload hx hb dX3_reckon_91 (lv_at hl 1 rfl) ?_
  refine lv_iconst (v := (-1)) hx hb dX3_reckon_93 (by decide) ?_
  refine lv_icmp_eq (tgt := 226) hx hb dX3_reckon_94 (by decide) (fun c1 => absurd c1 (by decide)) (fun _ => ?_)
  refine lv_iload hx hb dX3_reckon_97 (lv_at hl 1 rfl) ?_
  refine lv_istore (lv' := [(11, .int 0), (10, .int 0), (9, .int 0), (8, .ref (B + 114)), (6, .long 0), (4, .long 0), (3, .int 0), (0, .ref (B + 109)), (1, .ref (B + 22)), (2, .ref (B + 44))]) hx hb dX3_reckon_99 hl (by decide) rfl (fun ls hl => ?_)
  refine lv_iload hx hb dX3_reckon_101 (lv_at hl 0 rfl) ?_
  refine lv_iload_n hx hb dX3_reckon_103 rfl (lv_at hl 6 rfl) ?_
  refine lv_icmp_ge (tgt := 161) hx hb dX3_reckon_104 (by decide) (fun _ => ?_) (fun c1 => absurd c1 (by decide))
  refine lv_aload hx hb dX3_reckon_161 (lv_at hl 3 rfl) ?_
  refine x_Vl F w (As := []) (rest := []) (a := 114) (by decide) (sh_9 rfl _ _) rfl (c_X9_kindsRead_349 (h8)) gv_X3_51 hv_X9_kindsRead ⟨Nat.le_of_ble_eq_true rfl, Nat.le_of_ble_eq_true rfl⟩ hl.1 rfl (Nat.le_of_ble_eq_true rfl) ⟨Nat.zero_le _, Nat.zero_le _⟩ dX3_reckon_163 (fun H locs w => ?_)
  refine lv_lstore (lv' := [(11, .long 0), (10, .int 0), (9, .int 0), (8, .ref (B + 114)), (6, .long 0), (4, .long 0), (3, .int 0), (0, .ref (B + 109)), (1, .ref (B + 22)), (2, .ref (B + 44))]) hx hb dX3_reckon_166 hl (by decide) rfl (fun ls hl => ?_)
  refine lv_aload hx hb dX3_reckon_168 (lv_at hl 3 rfl) ?_
  refine x_Vl F w (As := []) (rest := []) (a := 114) (by decide) (sh_9 rfl _ _) rfl (c_X9_linesRead_350 (h8)) gv_X3_54 hv_X9_linesRead ⟨Nat.le_of_ble_eq_true rfl, Nat.le_of_ble_eq_true rfl⟩ hl.1 rfl (Nat.le_of_ble_eq_true rfl) ⟨Nat.zero_le _, Nat.zero_le _⟩ dX3_reckon_170 (fun H locs w => ?_)
  refine lv_lstore (lv' := [(13, .long 0), (11, .long 0), (10, .int 0), (9, .int 0), (8, .ref (B + 114)), (6, .long 0), (4, .long 0), (3, .int 0), (0, .ref (B + 109)), (1, .ref (B + 22)), (2, .ref (B + 44))]) hx hb dX3_reckon_173 hl (by decide) rfl (fun ls hl => ?_)
  refine lv_aload_n hx hb dX3_reckon_175 rfl (lv_at hl 8 rfl) ?_
  refine lv_lload hx hb dX3_reckon_176 (lv_at hl 1 rfl) ?_
  refine lv_lload hx hb dX3_reckon_178 (lv_at hl 0 rfl) ?_
  refine x_Vv F w (As := [.long 0, .long 0]) (rest := []) (a := 109) (by decide) (sh_3 rfl _ _) rfl (c_X3_enter_351 (h13) h15 h16) gv_X3_78 hv_X3_enter ⟨Nat.le_of_ble_eq_true rfl, Nat.le_of_ble_eq_true rfl⟩ hl.1 rfl (Nat.le_of_ble_eq_true rfl) ⟨Nat.zero_le _, Nat.zero_le _⟩ dX3_reckon_180 (fun H locs w => ?_)
  refine lv_aload_n hx hb dX3_reckon_183 rfl (lv_at hl 8 rfl) ?_
  refine lv_dup hx hb dX3_reckon_184 rfl ?_
  refine f_3_2 F w (a := 109) rfl tb_93 dX3_reckon_185 ?_
  refine r_val (v := 0) ((st_ne (by decide)).trans h14) ?_
  refine lv_lload hx hb dX3_reckon_188 (lv_at hl 1 rfl) ?_
  refine lv_lload hx hb dX3_reckon_190 (lv_at hl 6 rfl) ?_
  refine W.lcmp hx hb dX3_reckon_192 ?_
  refine r_val (v := 0) (by decide) ?_
  refine lv_if_ne (tgt := 208) hx hb dX3_reckon_193 (by decide) (fun c1 => absurd c1 (by decide)) (fun _ => ?_)
  refine lv_lload hx hb dX3_reckon_196 (lv_at hl 0 rfl) ?_
  refine lv_lload hx hb dX3_reckon_198 (lv_at hl 5 rfl) ?_
  refine W.lcmp hx hb dX3_reckon_200 ?_
  refine r_val (v := 0) (by decide) ?_
  refine lv_if_ne (tgt := 208) hx hb dX3_reckon_201 (by decide) (fun c1 => absurd c1 (by decide)) (fun _ => ?_)
  refine lv_iconst (v := 1) hx hb dX3_reckon_204 (by decide) ?_
  refine lv_goto (tgt := 209) hx hb dX3_reckon_205 (by decide) ?_
  refine lv_iadd hx hb dX3_reckon_209 ?_
  refine r_val (v := 1) (by decide) ?_
  refine u_3_2 F w (a := 109) rfl tb_93 dX3_reckon_210 (fun H locs w => ?_)
  refine lv_aload_n hx hb dX3_reckon_213 rfl (lv_at hl 8 rfl) ?_
  refine lv_iload_n hx hb dX3_reckon_214 rfl (lv_at hl 7 rfl) ?_
  refine x_Vi F w (As := [.int 0]) (rest := []) (a := 109) (by decide) (sh_3 rfl _ _) rfl (c_X3_nextOrder_352) gv_X3_82 hv_X3_nextOrder ⟨Nat.le_of_ble_eq_true rfl, Nat.le_of_ble_eq_true rfl⟩ hl.1 rfl (Nat.le_of_ble_eq_true rfl) ⟨Nat.zero_le _, Nat.zero_le _⟩ dX3_reckon_215 (fun H locs w => ?_)
  refine lv_istore (lv' := [(9, .int (-1)), (13, .long 0), (11, .long 0), (10, .int 0), (8, .ref (B + 114)), (6, .long 0), (4, .long 0), (3, .int 0), (0, .ref (B + 109)), (1, .ref (B + 22)), (2, .ref (B + 44))]) hx hb dX3_reckon_218 hl (by decide) rfl (fun ls hl => ?_)
  refine lv_iinc (v := 1) (lv' := [(10, .int 1), (9, .int (-1)), (13, .long 0), (11, .long 0), (8, .ref (B + 114)), (6, .long 0), (4, .long 0), (3, .int 0), (0, .ref (B + 109)), (1, .ref (B + 22)), (2, .ref (B + 44))]) hx hb dX3_reckon_220 hl (k := 3) rfl (by decide) (by decide) rfl (fun ls hl => ?_)
  refine lv_goto (tgt := 83) hx hb dX3_reckon_223 (by decide) ?_
  refine lv_iload hx hb dX3_reckon_83 (lv_at hl 0 rfl) ?_
  refine lv_sipush (v := 720) hx hb dX3_reckon_85 (by decide) ?_
  refine lv_icmp_ge (tgt := 226) hx hb dX3_reckon_88 (by decide) (fun c1 => absurd c1 (by decide)) (fun _ => ?_)
  refine lv_iload hx hb dX3_reckon_91 (lv_at hl 1 rfl) ?_
  refine lv_iconst (v := (-1)) hx hb dX3_reckon_93 (by decide) ?_
  refine lv_icmp_eq (tgt := 226) hx hb dX3_reckon_94 (by decide) (fun _ => ?_) (fun c1 => absurd c1 (by decide))
  refine lv_aload_n hx hb dX3_reckon_226 rfl (lv_at hl 8 rfl) ?_
  refine lv_iconst (v := 1) hx hb dX3_reckon_227 (by decide) ?_
  refine u_3_0 F w (a := 109) rfl (by decide) (by decide) tb_91 dX3_reckon_228 (fun H locs w => ?_)
  exact e_v F w hr hlocks rfl dX3_reckon_231
theorem tk_X3_reckon : Cond.code yX3_reckon cX3_reckon 15 none ∈ TB := tbm (tc5 (List.mem_of_getElem? (i := 3) rfl)) rfl
theorem gc_X3_reckon : GoodIn TB (cw yX3_reckon cX3_reckon 15 none) := goodIn_c2 tk_X3_reckon
theorem tb_533 : Cond.methodLink "ToneLines" 275 yX3_reckon ∈ TB := tbm (tc5 (List.mem_of_getElem? (i := 0) rfl)) rfl
theorem tb_534 : Cond.instanceMethod yX3_reckon ∈ TB := tbm (tc5 (List.mem_of_getElem? (i := 1) rfl)) rfl
theorem tb_535 : Cond.selects "ToneLines$Orders" yX3_reckon yX3_reckon ∈ TB := tbm (tc5 (List.mem_of_getElem? (i := 2) rfl)) rfl
theorem gv_X11_275 : GoodIn TB (wsV RX11 275 RX3 yX3_reckon (cw yX3_reckon cX3_reckon 15 none)) := goodIn_4 tb_533 tb_534 tb_535 tb_89 gc_X3_reckon
theorem hv_X3_reckon : yX3_reckon.cls = RX3 ∧ yX3_reckon.cls ≠ "java/lang/invoke/MethodHandle" ∧ yX3_reckon.cls ≠ "java/lang/invoke/VarHandle" ∧ (parseMethodDescriptor yX3_reckon.desc).map (fun d => d.parameters.length) = some 2 := by decide +kernel
theorem dX11_orders_61 : decode cX11_orders 61 = .ok (.iload_n 1, 1) := by decide +kernel
theorem dX11_orders_62 : decode cX11_orders 62 = .ok (.ifCond .ne 13, 3) := by decide +kernel
theorem dX11_orders_65 : decode cX11_orders 65 = .ok (.aload_n 0, 1) := by decide +kernel
theorem dX11_orders_66 : decode cX11_orders 66 = .ok (.getfield 54, 3) := by decide +kernel
theorem dX11_orders_69 : decode cX11_orders 69 = .ok (.getfield 279, 3) := by decide +kernel
theorem tb_536 : Cond.fieldLink "ToneLines" 279 "ToneLines$Orders" "unlike" "I" ∈ TB := tbm (tc1 (List.mem_of_getElem? (i := 232) rfl)) rfl
theorem dX11_orders_72 : decode cX11_orders 72 = .ok (.goto 10, 3) := by decide +kernel
theorem dX11_orders_82 : decode cX11_orders 82 = .ok (.ireturn, 1) := by decide +kernel
set_option maxRecDepth 4000 in
theorem c_X11_orders_354 {l : Launch} {D : va_G} {B : Nat} {cy : Nat → ClassId} {M : Mem} (h0 : M.1 22 2 = 0) (h1 : M.1 109 0 = 0) (h2 : M.1 22 7 = 0) (h3 : M.1 44 0 = 0) (h4 : M.1 44 1 = 0) (h5 : M.1 114 1 = 0) (h6 : M.1 44 2 = 0) (h7 : M.1 114 2 = 0) (h8 : M.1 44 3 = 0) (h9 : M.1 114 3 = 0) (h10 : M.1 114 0 = 0) (h11 : ∀ k, k < 12 → M.1 45 k = 0) (h12 : ∀ k, k < 12 → M.1 115 k = 0) (h13 : ∀ k, k < 12 → M.1 46 k = 0) (h14 : ∀ k, k < 12 → M.1 116 k = 0) (h15 : M.1 109 1 = 0) (h16 : M.1 109 2 = 0) (h17 : M.2 112 0 = 0) (h18 : M.2 113 0 = 0) : Ci l D B cy yX11_orders cX11_orders 2 (some .int) 3 95 [.ref (B + 0), .int 0] M (fun r M1 => r = 1 ∧ M1 = (st (st (st M 109 1 1) 109 2 1) 109 0 1)) := by
  refine s_any (by decide) (Nat.le_of_ble_eq_true rfl) ?_
  intro p e s m below meth c ls F hr hlocks w hl
  have F : CallFix p m c cX11_orders 2 s _ TB RX11 := F
  have hx := F.1
  have hb := F.2.1
  have hl : lv_has ls 2 [(0, .ref (B + 0)), (1, .int 0)] := hl
  refine lv_iload_n hx hb dX11_orders_0 rfl (lv_at hl 1 rfl) ?_
  refine lv_if_lt (tgt := 9) hx hb dX11_orders_1 (by decide) (fun c1 => absurd c1 (by decide)) (fun _ => ?_)
  refine lv_iload_n hx hb dX11_orders_4 rfl (lv_at hl 1 rfl) ?_
  refine lv_iconst (v := 1) hx hb dX11_orders_5 (by decide) ?_
  refine lv_icmp_le (tgt := 11) hx hb dX11_orders_6 (by decide) (fun _ => ?_) (fun c1 => absurd c1 (by decide))
  refine lv_aload_n hx hb dX11_orders_11 rfl (lv_at hl 0 rfl) ?_
  refine f_11_3 F w (a := 0) rfl tb_73 dX11_orders_12 ?_
  refine f_0_2 F w (a := 22) rfl tb_216 dX11_orders_15 ?_
  refine r_val (v := 0) (h0) ?_
  refine lv_bipush (v := 6) hx hb dX11_orders_18 (by decide) ?_
  refine lv_icmp_le (tgt := 26) hx hb dX11_orders_20 (by decide) (fun _ => ?_) (fun c1 => absurd c1 (by decide))
  refine lv_aload_n hx hb dX11_orders_26 rfl (lv_at hl 0 rfl) ?_
  refine f_11_6 F w (a := 0) rfl tb_102 dX11_orders_27 ?_
  refine f_3_0 F w (a := 109) rfl tb_211 dX11_orders_30 ?_
  refine r_val (v := 0) (h1) ?_
  refine lv_if_ne (tgt := 61) hx hb dX11_orders_33 (by decide) (fun c1 => absurd c1 (by decide)) (fun _ => ?_)
  refine lv_aload_n hx hb dX11_orders_36 rfl (lv_at hl 0 rfl) ?_
  refine f_11_6 F w (a := 0) rfl tb_102 dX11_orders_37 ?_
  refine lv_aload_n hx hb dX11_orders_40 rfl (lv_at hl 0 rfl) ?_
  refine f_11_3 F w (a := 0) rfl tb_73 dX11_orders_41 ?_
  refine lv_aload_n hx hb dX11_orders_44 rfl (lv_at hl 0 rfl) ?_
  refine f_11_3 F w (a := 0) rfl tb_73 dX11_orders_45 ?_
  refine lv_aload_n hx hb dX11_orders_48 rfl (lv_at hl 0 rfl) ?_
  refine f_11_3 F w (a := 0) rfl tb_73 dX11_orders_49 ?_
  refine f_0_2 F w (a := 22) rfl tb_216 dX11_orders_52 ?_
  refine r_val (v := 0) (h0) ?_
  refine x_Vr F w (As := [.int 0]) (rest := [.ref (B + 22), .ref (B + 109)]) (a := 22) (by decide) (sh_0 rfl _ _) rfl (c_X0_stageOf_207 (h0) (h2)) gv_X11_196 hv_X0_stageOf ⟨Nat.le_of_ble_eq_true rfl, Nat.le_of_ble_eq_true rfl⟩ hl.1 rfl (Nat.le_of_ble_eq_true rfl) ⟨Nat.zero_le _, Nat.zero_le _⟩ dX11_orders_55 (fun H locs w => ?_)
  refine x_Vv F w (As := [.ref (B + 22), .ref (B + 44)]) (rest := []) (a := 109) (by decide) (sh_3 rfl _ _) rfl (c_X3_reckon_353 (h0) (h3) (h4) (h5) (h6) (h7) (h8) (h9) (h10) (fun k hk => (h11 k hk)) (fun k hk => (h12 k hk)) (fun k hk => (h13 k hk)) (fun k hk => (h14 k hk)) (h15) (h16) h17 h18 (h1)) gv_X11_275 hv_X3_reckon ⟨Nat.le_of_ble_eq_true rfl, Nat.le_of_ble_eq_true rfl⟩ hl.1 rfl (Nat.le_of_ble_eq_true rfl) ⟨Nat.zero_le _, Nat.zero_le _⟩ dX11_orders_58 (fun H locs w => ?_)
  refine lv_iload_n hx hb dX11_orders_61 rfl (lv_at hl 1 rfl) ?_
  refine lv_if_ne (tgt := 75) hx hb dX11_orders_62 (by decide) (fun c1 => absurd c1 (by decide)) (fun _ => ?_)
  refine lv_aload_n hx hb dX11_orders_65 rfl (lv_at hl 0 rfl) ?_
  refine f_11_6 F w (a := 0) rfl tb_102 dX11_orders_66 ?_
  refine f_3_1 F w (a := 109) rfl tb_536 dX11_orders_69 ?_
  refine r_val (v := 1) ((st_ne (by decide)).trans ((st_ne (by decide)).trans st_at)) ?_
  refine lv_goto (tgt := 82) hx hb dX11_orders_72 (by decide) ?_
  exact e_i F w hr hlocks ⟨rfl, rfl⟩ dX11_orders_82
set_option maxRecDepth 4000 in
theorem c_X12_in_355 {l : Launch} {D : va_G} {B : Nat} {cy : Nat → ClassId} {M : Mem} : Ci l D B cy yX12_in cX12_in 3 (some .boolean) 0 0 [.int 0, .int 0, .int 1] M (fun r M1 => r = 1 ∧ M1 = M) := by
  refine s_any (by decide) (Nat.le_of_ble_eq_true rfl) ?_
  intro p e s m below meth c ls F hr hlocks w hl
  have F : CallFix p m c cX12_in 3 s _ TB RX12 := F
  have hx := F.1
  have hb := F.2.1
  have hl : lv_has ls 3 [(0, .int 0), (1, .int 0), (2, .int 1)] := hl
  refine lv_iload_n hx hb dX12_in_0 rfl (lv_at hl 0 rfl) ?_
  refine lv_iload_n hx hb dX12_in_1 rfl (lv_at hl 1 rfl) ?_
  refine lv_icmp_lt (tgt := 14) hx hb dX12_in_2 (by decide) (fun c1 => absurd c1 (by decide)) (fun _ => ?_)
  refine lv_iload_n hx hb dX12_in_5 rfl (lv_at hl 0 rfl) ?_
  refine lv_iload_n hx hb dX12_in_6 rfl (lv_at hl 2 rfl) ?_
  refine lv_icmp_gt (tgt := 14) hx hb dX12_in_7 (by decide) (fun c1 => absurd c1 (by decide)) (fun _ => ?_)
  refine lv_iconst (v := 1) hx hb dX12_in_10 (by decide) ?_
  refine lv_goto (tgt := 15) hx hb dX12_in_11 (by decide) ?_
  exact e_z F w hr hlocks (by decide) ⟨rfl, rfl⟩ dX12_in_15
theorem dX12_orders_11 : decode cX12_orders 11 = .ok (.aload_n 0, 1) := by decide +kernel
theorem dX12_orders_12 : decode cX12_orders 12 = .ok (.getfield 239, 3) := by decide +kernel
theorem dX12_orders_15 : decode cX12_orders 15 = .ok (.bipush 6, 2) := by decide +kernel
theorem dX12_orders_17 : decode cX12_orders 17 = .ok (.if_icmp .le 6, 3) := by decide +kernel
theorem dX12_orders_23 : decode cX12_orders 23 = .ok (.aload_n 0, 1) := by decide +kernel
theorem dX12_orders_24 : decode cX12_orders 24 = .ok (.invokevirtual 303, 3) := by decide +kernel
theorem dX12_orders_27 : decode cX12_orders 27 = .ok (.iconst 1, 1) := by decide +kernel
theorem dX12_orders_28 : decode cX12_orders 28 = .ok (.istore_n 2, 1) := by decide +kernel
theorem dX12_orders_29 : decode cX12_orders 29 = .ok (.iconst 2, 1) := by decide +kernel
theorem dX12_orders_30 : decode cX12_orders 30 = .ok (.istore_n 3, 1) := by decide +kernel
theorem dX12_orders_31 : decode cX12_orders 31 = .ok (.iload_n 3, 1) := by decide +kernel
theorem dX12_orders_32 : decode cX12_orders 32 = .ok (.aload_n 0, 1) := by decide +kernel
theorem dX12_orders_33 : decode cX12_orders 33 = .ok (.getfield 239, 3) := by decide +kernel
theorem dX12_orders_36 : decode cX12_orders 36 = .ok (.if_icmp .gt 13, 3) := by decide +kernel
theorem dX12_orders_49 : decode cX12_orders 49 = .ok (.iconst 0, 1) := by decide +kernel
theorem dX12_orders_50 : decode cX12_orders 50 = .ok (.istore_n 3, 1) := by decide +kernel
theorem dX12_orders_51 : decode cX12_orders 51 = .ok (.aload_n 0, 1) := by decide +kernel
theorem dX12_orders_52 : decode cX12_orders 52 = .ok (.iconst 0, 1) := by decide +kernel
theorem dX12_orders_53 : decode cX12_orders 53 = .ok (.putfield 309, 3) := by decide +kernel
theorem tb_537 : Cond.fieldLink "ToneLinesModel" 309 "ToneLinesModel" "readingMany" "I" ∈ TB := tbm (tc5 (List.mem_of_getElem? (i := 81) rfl)) rfl
theorem dX12_orders_56 : decode cX12_orders 56 = .ok (.iconst 0, 1) := by decide +kernel
theorem dX12_orders_57 : decode cX12_orders 57 = .ok (.istore 4, 2) := by decide +kernel
theorem dX12_orders_59 : decode cX12_orders 59 = .ok (.iload 4, 2) := by decide +kernel
theorem dX12_orders_61 : decode cX12_orders 61 = .ok (.iload_n 2, 1) := by decide +kernel
theorem dX12_orders_62 : decode cX12_orders 62 = .ok (.if_icmp .ge 29, 3) := by decide +kernel
theorem dX12_orders_65 : decode cX12_orders 65 = .ok (.aload_n 0, 1) := by decide +kernel
theorem dX12_orders_66 : decode cX12_orders 66 = .ok (.iload 4, 2) := by decide +kernel
theorem dX12_orders_68 : decode cX12_orders 68 = .ok (.invokevirtual 312, 3) := by decide +kernel
theorem dX12_worksOrder_0 : decode cX12_worksOrder 0 = .ok (.aload_n 0, 1) := by decide +kernel
theorem dX12_worksOrder_1 : decode cX12_worksOrder 1 = .ok (.getfield 17, 3) := by decide +kernel
theorem dX12_worksOrder_4 : decode cX12_worksOrder 4 = .ok (.aload_n 0, 1) := by decide +kernel
theorem dX12_worksOrder_5 : decode cX12_worksOrder 5 = .ok (.getfield 13, 3) := by decide +kernel
theorem dX12_worksOrder_8 : decode cX12_worksOrder 8 = .ok (.invokestatic 162, 3) := by decide +kernel
theorem dX12_worksOrder_11 : decode cX12_worksOrder 11 = .ok (.iconst 1, 1) := by decide +kernel
theorem dX12_worksOrder_12 : decode cX12_worksOrder 12 = .ok (.aload_n 0, 1) := by decide +kernel
theorem dX12_worksOrder_13 : decode cX12_worksOrder 13 = .ok (.getfield 239, 3) := by decide +kernel
theorem dX12_worksOrder_16 : decode cX12_worksOrder 16 = .ok (.ishl, 1) := by decide +kernel
theorem dX12_worksOrder_17 : decode cX12_worksOrder 17 = .ok (.iconst 1, 1) := by decide +kernel
theorem dX12_worksOrder_18 : decode cX12_worksOrder 18 = .ok (.isub, 1) := by decide +kernel
theorem dX12_worksOrder_19 : decode cX12_worksOrder 19 = .ok (.istore_n 2, 1) := by decide +kernel
theorem dX12_worksOrder_20 : decode cX12_worksOrder 20 = .ok (.iload_n 1, 1) := by decide +kernel
theorem dX12_worksOrder_21 : decode cX12_worksOrder 21 = .ok (.istore_n 3, 1) := by decide +kernel
theorem dX12_worksOrder_22 : decode cX12_worksOrder 22 = .ok (.aload_n 0, 1) := by decide +kernel
theorem dX12_worksOrder_23 : decode cX12_worksOrder 23 = .ok (.getfield 239, 3) := by decide +kernel
theorem dX12_worksOrder_26 : decode cX12_worksOrder 26 = .ok (.istore 4, 2) := by decide +kernel
theorem dX12_worksOrder_28 : decode cX12_worksOrder 28 = .ok (.iload 4, 2) := by decide +kernel
theorem dX12_worksOrder_30 : decode cX12_worksOrder 30 = .ok (.ifCond .le 75, 3) := by decide +kernel
theorem dX12_worksOrder_105 : decode cX12_worksOrder 105 = .ok (.return_, 1) := by decide +kernel
set_option maxRecDepth 4000 in
theorem c_X12_worksOrder_356 {l : Launch} {D : va_G} {B : Nat} {cy : Nat → ClassId} {M : Mem} (h0 : M.1 147 0 = 0) (h1 : M.1 148 0 = 0) (h2 : M.1 147 1 = 0) (h3 : M.1 148 1 = 0) (h4 : M.1 147 2 = 0) (h5 : M.1 148 2 = 0) (h6 : M.1 147 3 = 0) (h7 : M.1 148 3 = 0) (h8 : M.1 147 4 = 0) (h9 : M.1 148 4 = 0) (h10 : M.1 147 5 = 0) (h11 : M.1 148 5 = 0) (h12 : M.1 147 6 = 0) (h13 : M.1 148 6 = 0) (h14 : M.1 147 7 = 0) (h15 : M.1 148 7 = 0) (h16 : M.1 147 8 = 0) (h17 : M.1 148 8 = 0) (h18 : M.1 147 9 = 0) (h19 : M.1 148 9 = 0) (h20 : M.1 147 10 = 0) (h21 : M.1 148 10 = 0) (h22 : M.1 147 11 = 0) (h23 : M.1 148 11 = 0) (h24 : M.1 147 12 = 0) (h25 : M.1 148 12 = 0) (h26 : M.1 147 13 = 0) (h27 : M.1 148 13 = 0) (h28 : M.1 147 14 = 0) (h29 : M.1 148 14 = 0) (h30 : M.1 147 15 = 0) (h31 : M.1 148 15 = 0) (h32 : M.1 147 16 = 0) (h33 : M.1 148 16 = 0) (h34 : M.1 147 17 = 0) (h35 : M.1 148 17 = 0) (h36 : M.1 147 18 = 0) (h37 : M.1 148 18 = 0) (h38 : M.1 147 19 = 0) (h39 : M.1 148 19 = 0) (h40 : M.1 147 20 = 0) (h41 : M.1 148 20 = 0) (h42 : M.1 147 21 = 0) (h43 : M.1 148 21 = 0) (h44 : M.1 147 22 = 0) (h45 : M.1 148 22 = 0) (h46 : M.1 147 23 = 0) (h47 : M.1 148 23 = 0) (h48 : M.1 147 24 = 0) (h49 : M.1 148 24 = 0) (h50 : M.1 147 25 = 0) (h51 : M.1 148 25 = 0) (h52 : M.1 147 26 = 0) (h53 : M.1 148 26 = 0) (h54 : M.1 147 27 = 0) (h55 : M.1 148 27 = 0) (h56 : M.1 146 5 = 0) : Cv l D B cy yX12_worksOrder cX12_worksOrder 8 1 22 [.ref (B + 146), .int 0] M (fun M1 => M1 = M) := by
  refine s_any (by decide) (Nat.le_of_ble_eq_true rfl) ?_
  intro p e s m below meth c ls F hr hlocks w hl
  have F : CallFix p m c cX12_worksOrder 8 s _ TB RX12 := F
  have hx := F.1
  have hb := F.2.1
  have hl : lv_has ls 8 [(0, .ref (B + 146)), (1, .int 0)] := hl
  refine lv_aload_n hx hb dX12_worksOrder_0 rfl (lv_at hl 0 rfl) ?_
  refine f_12_2 F w (a := 146) rfl tb_127 dX12_worksOrder_1 ?_
  refine lv_aload_n hx hb dX12_worksOrder_4 rfl (lv_at hl 0 rfl) ?_
  refine f_12_1 F w (a := 146) rfl tb_126 dX12_worksOrder_5 ?_
  refine x_Sv F w (As := [.ref (B + 148), .ref (B + 147)]) (rest := []) (c_X12_copy_211 (h0) (h1) (h2) (h3) (h4) (h5) (h6) (h7) (h8) (h9) (h10) (h11) (h12) (h13) (h14) (h15) (h16) (h17) (h18) (h19) (h20) (h21) (h22) (h23) (h24) (h25) (h26) (h27) (h28) (h29) (h30) (h31) (h32) (h33) (h34) (h35) (h36) (h37) (h38) (h39) (h40) (h41) (h42) (h43) (h44) (h45) (h46) (h47) (h48) (h49) (h50) (h51) (h52) (h53) (h54) (h55)) gs_X12_162 hs_X12_copy ⟨Nat.le_of_ble_eq_true rfl, Nat.le_of_ble_eq_true rfl⟩ hl.1 rfl (Nat.le_of_ble_eq_true rfl) ⟨Nat.zero_le _, Nat.zero_le _⟩ dX12_worksOrder_8 (fun H locs w => ?_)
  refine lv_iconst (v := 1) hx hb dX12_worksOrder_11 (by decide) ?_
  refine lv_aload_n hx hb dX12_worksOrder_12 rfl (lv_at hl 0 rfl) ?_
  refine f_12_5 F w (a := 146) rfl tb_227 dX12_worksOrder_13 ?_
  refine r_val (v := 0) (h56) ?_
  refine lv_ishl hx hb dX12_worksOrder_16 ?_
  refine r_val (v := 1) (by decide) ?_
  refine lv_iconst (v := 1) hx hb dX12_worksOrder_17 (by decide) ?_
  refine lv_isub hx hb dX12_worksOrder_18 ?_
  refine r_val (v := 0) (by decide) ?_
  refine lv_istore_n (lv' := [(2, .int 0), (0, .ref (B + 146)), (1, .int 0)]) hx hb dX12_worksOrder_19 rfl hl (by decide) rfl (fun ls hl => ?_)
  refine lv_iload_n hx hb dX12_worksOrder_20 rfl (lv_at hl 2 rfl) ?_
  refine lv_istore_n (lv' := [(3, .int 0), (2, .int 0), (0, .ref (B + 146)), (1, .int 0)]) hx hb dX12_worksOrder_21 rfl hl (by decide) rfl (fun ls hl => ?_)
  refine lv_aload_n hx hb dX12_worksOrder_22 rfl (lv_at hl 2 rfl) ?_
  refine f_12_5 F w (a := 146) rfl tb_227 dX12_worksOrder_23 ?_
  refine r_val (v := 0) (h56) ?_
  refine lv_istore (lv' := [(4, .int 0), (3, .int 0), (2, .int 0), (0, .ref (B + 146)), (1, .int 0)]) hx hb dX12_worksOrder_26 hl (by decide) rfl (fun ls hl => ?_)
  refine lv_iload hx hb dX12_worksOrder_28 (lv_at hl 0 rfl) ?_
  refine lv_if_le (tgt := 105) hx hb dX12_worksOrder_30 (by decide) (fun _ => ?_) (fun c1 => absurd c1 (by decide))
  exact e_v F w hr hlocks rfl dX12_worksOrder_105
theorem tk_X12_worksOrder : Cond.code yX12_worksOrder cX12_worksOrder 8 none ∈ TB := tbm (tc7 (List.mem_of_getElem? (i := 16) rfl)) rfl
theorem gc_X12_worksOrder : GoodIn TB (cw yX12_worksOrder cX12_worksOrder 8 none) := goodIn_c2 tk_X12_worksOrder
theorem tb_538 : Cond.methodLink "ToneLinesModel" 312 yX12_worksOrder ∈ TB := tbm (tc7 (List.mem_of_getElem? (i := 13) rfl)) rfl
theorem tb_539 : Cond.instanceMethod yX12_worksOrder ∈ TB := tbm (tc7 (List.mem_of_getElem? (i := 15) rfl)) rfl
theorem tb_540 : Cond.selects "ToneLinesModel" yX12_worksOrder yX12_worksOrder ∈ TB := tbp (List.mem_of_getElem? (i := 87) rfl) rfl
theorem gv_X12_312 : GoodIn TB (wsV RX12 312 RX12 yX12_worksOrder (cw yX12_worksOrder cX12_worksOrder 8 none)) := goodIn_4 tb_538 tb_539 tb_540 tb_150 gc_X12_worksOrder
theorem hv_X12_worksOrder : yX12_worksOrder.cls = RX12 ∧ yX12_worksOrder.cls ≠ "java/lang/invoke/MethodHandle" ∧ yX12_worksOrder.cls ≠ "java/lang/invoke/VarHandle" ∧ (parseMethodDescriptor yX12_worksOrder.desc).map (fun d => d.parameters.length) = some 1 := by decide +kernel
theorem dX12_orders_71 : decode cX12_orders 71 = .ok (.aload_n 0, 1) := by decide +kernel
theorem dX12_orders_72 : decode cX12_orders 72 = .ok (.invokevirtual 306, 3) := by decide +kernel
theorem dX12_isDue_0 : decode cX12_isDue 0 = .ok (.iconst 0, 1) := by decide +kernel
theorem dX12_isDue_1 : decode cX12_isDue 1 = .ok (.istore_n 1, 1) := by decide +kernel
theorem dX12_isDue_2 : decode cX12_isDue 2 = .ok (.iload_n 1, 1) := by decide +kernel
theorem dX12_isDue_3 : decode cX12_isDue 3 = .ok (.aload_n 0, 1) := by decide +kernel
theorem dX12_isDue_4 : decode cX12_isDue 4 = .ok (.getfield 17, 3) := by decide +kernel
theorem dX12_isDue_7 : decode cX12_isDue 7 = .ok (.bipush 25, 2) := by decide +kernel
theorem dX12_isDue_9 : decode cX12_isDue 9 = .ok (.iaload, 1) := by decide +kernel
theorem dX12_isDue_10 : decode cX12_isDue 10 = .ok (.if_icmp .ge 25, 3) := by decide +kernel
theorem dX12_isDue_35 : decode cX12_isDue 35 = .ok (.iconst 1, 1) := by decide +kernel
theorem dX12_isDue_36 : decode cX12_isDue 36 = .ok (.ireturn, 1) := by decide +kernel
set_option maxRecDepth 4000 in
theorem c_X12_isDue_357 {l : Launch} {D : va_G} {B : Nat} {cy : Nat → ClassId} {M : Mem} (h0 : M.1 148 25 = 0) : Ci l D B cy yX12_isDue cX12_isDue 2 (some .boolean) 0 0 [.ref (B + 146)] M (fun r M1 => r = 1 ∧ M1 = M) := by
  refine s_any (by decide) (Nat.le_of_ble_eq_true rfl) ?_
  intro p e s m below meth c ls F hr hlocks w hl
  have F : CallFix p m c cX12_isDue 2 s _ TB RX12 := F
  have hx := F.1
  have hb := F.2.1
  have hl : lv_has ls 2 [(0, .ref (B + 146))] := hl
  refine lv_iconst (v := 0) hx hb dX12_isDue_0 (by decide) ?_
  refine lv_istore_n (lv' := [(1, .int 0), (0, .ref (B + 146))]) hx hb dX12_isDue_1 rfl hl (by decide) rfl (fun ls hl => ?_)
  refine lv_iload_n hx hb dX12_isDue_2 rfl (lv_at hl 0 rfl) ?_
  refine lv_aload_n hx hb dX12_isDue_3 rfl (lv_at hl 1 rfl) ?_
  refine f_12_2 F w (a := 146) rfl tb_127 dX12_isDue_4 ?_
  refine lv_bipush (v := 25) hx hb dX12_isDue_7 (by decide) ?_
  refine g_iald F w (a := 148) rfl (j := 25) ⟨by decide, by decide⟩ (by decide) dX12_isDue_9 ?_
  refine r_val (v := 0) (h0) ?_
  refine lv_icmp_ge (tgt := 35) hx hb dX12_isDue_10 (by decide) (fun _ => ?_) (fun c1 => absurd c1 (by decide))
  refine lv_iconst (v := 1) hx hb dX12_isDue_35 (by decide) ?_
  exact e_z F w hr hlocks (by decide) ⟨rfl, rfl⟩ dX12_isDue_36
theorem tk_X12_isDue : Cond.code yX12_isDue cX12_isDue 2 (some .boolean) ∈ TB := tbm (tc7 (List.mem_of_getElem? (i := 4) rfl)) rfl
theorem gc_X12_isDue : GoodIn TB (cw yX12_isDue cX12_isDue 2 (some .boolean)) := goodIn_c2 tk_X12_isDue
theorem tb_541 : Cond.methodLink "ToneLinesModel" 306 yX12_isDue ∈ TB := tbm (tc7 (List.mem_of_getElem? (i := 1) rfl)) rfl
theorem tb_542 : Cond.instanceMethod yX12_isDue ∈ TB := tbm (tc7 (List.mem_of_getElem? (i := 3) rfl)) rfl
theorem tb_543 : Cond.selects "ToneLinesModel" yX12_isDue yX12_isDue ∈ TB := tbp (List.mem_of_getElem? (i := 86) rfl) rfl
theorem gv_X12_306 : GoodIn TB (wsV RX12 306 RX12 yX12_isDue (cw yX12_isDue cX12_isDue 2 (some .boolean))) := goodIn_4 tb_541 tb_542 tb_543 tb_150 gc_X12_isDue
theorem hv_X12_isDue : yX12_isDue.cls = RX12 ∧ yX12_isDue.cls ≠ "java/lang/invoke/MethodHandle" ∧ yX12_isDue.cls ≠ "java/lang/invoke/VarHandle" ∧ (parseMethodDescriptor yX12_isDue.desc).map (fun d => d.parameters.length) = some 0 := by decide +kernel
theorem dX12_orders_75 : decode cX12_orders 75 = .ok (.ifCond .eq 6, 3) := by decide +kernel
theorem dX12_orders_78 : decode cX12_orders 78 = .ok (.iinc 3 1, 3) := by decide +kernel
theorem dX12_orders_81 : decode cX12_orders 81 = .ok (.aload_n 0, 1) := by decide +kernel
theorem dX12_orders_82 : decode cX12_orders 82 = .ok (.invokevirtual 315, 3) := by decide +kernel
theorem dX12_collects_0 : decode cX12_collects 0 = .ok (.bipush 12, 2) := by decide +kernel
theorem dX12_collects_2 : decode cX12_collects 2 = .ok (.aload_n 0, 1) := by decide +kernel
theorem dX12_collects_3 : decode cX12_collects 3 = .ok (.getfield 309, 3) := by decide +kernel
theorem dX12_collects_6 : decode cX12_collects 6 = .ok (.imul, 1) := by decide +kernel
theorem dX12_collects_7 : decode cX12_collects 7 = .ok (.istore_n 1, 1) := by decide +kernel
theorem dX12_collects_8 : decode cX12_collects 8 = .ok (.iconst 0, 1) := by decide +kernel
theorem dX12_collects_9 : decode cX12_collects 9 = .ok (.istore_n 2, 1) := by decide +kernel
theorem dX12_collects_10 : decode cX12_collects 10 = .ok (.iload_n 2, 1) := by decide +kernel
theorem dX12_collects_11 : decode cX12_collects 11 = .ok (.bipush 12, 2) := by decide +kernel
theorem dX12_collects_13 : decode cX12_collects 13 = .ok (.if_icmp .ge 37, 3) := by decide +kernel
theorem dX12_collects_16 : decode cX12_collects 16 = .ok (.aload_n 0, 1) := by decide +kernel
theorem dX12_collects_17 : decode cX12_collects 17 = .ok (.getfield 48, 3) := by decide +kernel
theorem dX12_collects_20 : decode cX12_collects 20 = .ok (.iload_n 1, 1) := by decide +kernel
theorem dX12_collects_21 : decode cX12_collects 21 = .ok (.iload_n 2, 1) := by decide +kernel
theorem dX12_collects_22 : decode cX12_collects 22 = .ok (.iadd, 1) := by decide +kernel
theorem dX12_collects_23 : decode cX12_collects 23 = .ok (.iload_n 2, 1) := by decide +kernel
theorem dX12_collects_24 : decode cX12_collects 24 = .ok (.aload_n 0, 1) := by decide +kernel
theorem dX12_collects_25 : decode cX12_collects 25 = .ok (.getfield 17, 3) := by decide +kernel
theorem dX12_collects_28 : decode cX12_collects 28 = .ok (.bipush 25, 2) := by decide +kernel
theorem dX12_collects_30 : decode cX12_collects 30 = .ok (.iaload, 1) := by decide +kernel
theorem dX12_collects_31 : decode cX12_collects 31 = .ok (.if_icmp .ge 11, 3) := by decide +kernel
theorem dX12_collects_42 : decode cX12_collects 42 = .ok (.iconst 0, 1) := by decide +kernel
theorem dX12_collects_43 : decode cX12_collects 43 = .ok (.iastore, 1) := by decide +kernel
theorem dX12_collects_44 : decode cX12_collects 44 = .ok (.iinc 2 1, 3) := by decide +kernel
theorem dX12_collects_47 : decode cX12_collects 47 = .ok (.goto (-37), 3) := by decide +kernel
theorem dX12_collects_50 : decode cX12_collects 50 = .ok (.iconst 0, 1) := by decide +kernel
theorem dX12_collects_51 : decode cX12_collects 51 = .ok (.istore_n 2, 1) := by decide +kernel
theorem dX12_collects_52 : decode cX12_collects 52 = .ok (.iload_n 2, 1) := by decide +kernel
theorem dX12_collects_53 : decode cX12_collects 53 = .ok (.aload_n 0, 1) := by decide +kernel
theorem dX12_collects_54 : decode cX12_collects 54 = .ok (.getfield 309, 3) := by decide +kernel
theorem dX12_collects_57 : decode cX12_collects 57 = .ok (.if_icmp .ge 66, 3) := by decide +kernel
theorem dX12_collects_123 : decode cX12_collects 123 = .ok (.aload_n 0, 1) := by decide +kernel
theorem dX12_collects_124 : decode cX12_collects 124 = .ok (.dup, 1) := by decide +kernel
theorem dX12_collects_125 : decode cX12_collects 125 = .ok (.getfield 309, 3) := by decide +kernel
theorem dX12_collects_128 : decode cX12_collects 128 = .ok (.iconst 1, 1) := by decide +kernel
theorem dX12_collects_129 : decode cX12_collects 129 = .ok (.iadd, 1) := by decide +kernel
theorem dX12_collects_130 : decode cX12_collects 130 = .ok (.putfield 309, 3) := by decide +kernel
theorem dX12_collects_133 : decode cX12_collects 133 = .ok (.return_, 1) := by decide +kernel
set_option maxRecDepth 4000 in
theorem c_X12_collects_358 {l : Launch} {D : va_G} {B : Nat} {cy : Nat → ClassId} {M : Mem} (h0 : M.1 146 25 = 0) (h1 : M.1 148 25 = 0) (h2 : M.1 158 0 = 0) (h3 : M.1 158 1 = 0) (h4 : M.1 158 2 = 0) (h5 : M.1 158 3 = 0) (h6 : M.1 158 4 = 0) (h7 : M.1 158 5 = 0) (h8 : M.1 158 6 = 0) (h9 : M.1 158 7 = 0) (h10 : M.1 158 8 = 0) (h11 : M.1 158 9 = 0) (h12 : M.1 158 10 = 0) (h13 : M.1 158 11 = 0) : Cv l D B cy yX12_collects cX12_collects 5 0 0 [.ref (B + 146)] M (fun M1 => M1 = (st M 146 25 1)) := by
  refine s_any (by decide) (Nat.le_of_ble_eq_true rfl) ?_
  intro p e s m below meth c ls F hr hlocks w hl
  have F : CallFix p m c cX12_collects 5 s _ TB RX12 := F
  have hx := F.1
  have hb := F.2.1
  have hl : lv_has ls 5 [(0, .ref (B + 146))] := hl
  refine lv_bipush (v := 12) hx hb dX12_collects_0 (by decide) ?_
  refine lv_aload_n hx hb dX12_collects_2 rfl (lv_at hl 0 rfl) ?_
  refine f_12_25 F w (a := 146) rfl tb_537 dX12_collects_3 ?_
  refine r_val (v := 0) (h0) ?_
  refine lv_imul hx hb dX12_collects_6 ?_
  refine r_val (v := 0) (by decide) ?_
  refine lv_istore_n (lv' := [(1, .int 0), (0, .ref (B + 146))]) hx hb dX12_collects_7 rfl hl (by decide) rfl (fun ls hl => ?_)
  refine lv_iconst (v := 0) hx hb dX12_collects_8 (by decide) ?_
  refine lv_istore_n (lv' := [(2, .int 0), (1, .int 0), (0, .ref (B + 146))]) hx hb dX12_collects_9 rfl hl (by decide) rfl (fun ls hl => ?_)
  refine lv_iload_n hx hb dX12_collects_10 rfl (lv_at hl 0 rfl) ?_
  refine lv_bipush (v := 12) hx hb dX12_collects_11 (by decide) ?_
  refine lv_icmp_ge (tgt := 50) hx hb dX12_collects_13 (by decide) (fun c1 => absurd c1 (by decide)) (fun _ => ?_)
  refine lv_aload_n hx hb dX12_collects_16 rfl (lv_at hl 2 rfl) ?_
  refine f_12_24 F w (a := 146) rfl tb_137 dX12_collects_17 ?_
  refine lv_iload_n hx hb dX12_collects_20 rfl (lv_at hl 1 rfl) ?_
  refine lv_iload_n hx hb dX12_collects_21 rfl (lv_at hl 0 rfl) ?_
  refine lv_iadd hx hb dX12_collects_22 ?_
  refine r_val (v := 0) (by decide) ?_
  refine lv_iload_n hx hb dX12_collects_23 rfl (lv_at hl 0 rfl) ?_
  refine lv_aload_n hx hb dX12_collects_24 rfl (lv_at hl 2 rfl) ?_
  refine f_12_2 F w (a := 146) rfl tb_127 dX12_collects_25 ?_
  refine lv_bipush (v := 25) hx hb dX12_collects_28 (by decide) ?_
  refine g_iald F w (a := 148) rfl (j := 25) ⟨by decide, by decide⟩ (by decide) dX12_collects_30 ?_
  refine r_val (v := 0) (h1) ?_
  refine lv_icmp_ge (tgt := 42) hx hb dX12_collects_31 (by decide) (fun _ => ?_) (fun c1 => absurd c1 (by decide))
  refine lv_iconst (v := 0) hx hb dX12_collects_42 (by decide) ?_
  refine g_iast F w (a := 158) rfl (j := 0) ⟨by decide, by decide⟩ (by decide) dX12_collects_43 (fun H locs w => ?_)
  rw [st_same (h2)] at w
  refine lv_iinc (v := 1) (lv' := [(2, .int 1), (1, .int 0), (0, .ref (B + 146))]) hx hb dX12_collects_44 hl (k := 0) rfl (by decide) (by decide) rfl (fun ls hl => ?_)
  refine lv_goto (tgt := 10) hx hb dX12_collects_47 (by decide) ?_
  refine lv_iload_n hx hb dX12_collects_10 rfl (lv_at hl 0 rfl) ?_
  refine lv_bipush (v := 12) hx hb dX12_collects_11 (by decide) ?_
  refine lv_icmp_ge (tgt := 50) hx hb dX12_collects_13 (by decide) (fun c1 => absurd c1 (by decide)) (fun _ => ?_)
  refine lv_aload_n hx hb dX12_collects_16 rfl (lv_at hl 2 rfl) ?_
  refine f_12_24 F w (a := 146) rfl tb_137 dX12_collects_17 ?_
  refine lv_iload_n hx hb dX12_collects_20 rfl (lv_at hl 1 rfl) ?_
  refine lv_iload_n hx hb dX12_collects_21 rfl (lv_at hl 0 rfl) ?_
  refine lv_iadd hx hb dX12_collects_22 ?_
  refine r_val (v := 1) (by decide) ?_
  refine lv_iload_n hx hb dX12_collects_23 rfl (lv_at hl 0 rfl) ?_
  refine lv_aload_n hx hb dX12_collects_24 rfl (lv_at hl 2 rfl) ?_
  refine f_12_2 F w (a := 146) rfl tb_127 dX12_collects_25 ?_
  refine lv_bipush (v := 25) hx hb dX12_collects_28 (by decide) ?_
  refine g_iald F w (a := 148) rfl (j := 25) ⟨by decide, by decide⟩ (by decide) dX12_collects_30 ?_
  refine r_val (v := 0) (h1) ?_
  refine lv_icmp_ge (tgt := 42) hx hb dX12_collects_31 (by decide) (fun _ => ?_) (fun c1 => absurd c1 (by decide))
  refine lv_iconst (v := 0) hx hb dX12_collects_42 (by decide) ?_
  refine g_iast F w (a := 158) rfl (j := 1) ⟨by decide, by decide⟩ (by decide) dX12_collects_43 (fun H locs w => ?_)
  rw [st_same (h3)] at w
  refine lv_iinc (v := 2) (lv' := [(2, .int 2), (1, .int 0), (0, .ref (B + 146))]) hx hb dX12_collects_44 hl (k := 0) rfl (by decide) (by decide) rfl (fun ls hl => ?_)
  refine lv_goto (tgt := 10) hx hb dX12_collects_47 (by decide) ?_
  refine lv_iload_n hx hb dX12_collects_10 rfl (lv_at hl 0 rfl) ?_
  refine lv_bipush (v := 12) hx hb dX12_collects_11 (by decide) ?_
  refine lv_icmp_ge (tgt := 50) hx hb dX12_collects_13 (by decide) (fun c1 => absurd c1 (by decide)) (fun _ => ?_)
  refine lv_aload_n hx hb dX12_collects_16 rfl (lv_at hl 2 rfl) ?_
  refine f_12_24 F w (a := 146) rfl tb_137 dX12_collects_17 ?_
  refine lv_iload_n hx hb dX12_collects_20 rfl (lv_at hl 1 rfl) ?_
  refine lv_iload_n hx hb dX12_collects_21 rfl (lv_at hl 0 rfl) ?_
  refine lv_iadd hx hb dX12_collects_22 ?_
  refine r_val (v := 2) (by decide) ?_
  refine lv_iload_n hx hb dX12_collects_23 rfl (lv_at hl 0 rfl) ?_
  refine lv_aload_n hx hb dX12_collects_24 rfl (lv_at hl 2 rfl) ?_
  refine f_12_2 F w (a := 146) rfl tb_127 dX12_collects_25 ?_
  refine lv_bipush (v := 25) hx hb dX12_collects_28 (by decide) ?_
  refine g_iald F w (a := 148) rfl (j := 25) ⟨by decide, by decide⟩ (by decide) dX12_collects_30 ?_
  refine r_val (v := 0) (h1) ?_
  refine lv_icmp_ge (tgt := 42) hx hb dX12_collects_31 (by decide) (fun _ => ?_) (fun c1 => absurd c1 (by decide))
  refine lv_iconst (v := 0) hx hb dX12_collects_42 (by decide) ?_
  refine g_iast F w (a := 158) rfl (j := 2) ⟨by decide, by decide⟩ (by decide) dX12_collects_43 (fun H locs w => ?_)
  rw [st_same (h4)] at w
  refine lv_iinc (v := 3) (lv' := [(2, .int 3), (1, .int 0), (0, .ref (B + 146))]) hx hb dX12_collects_44 hl (k := 0) rfl (by decide) (by decide) rfl (fun ls hl => ?_)
  refine lv_goto (tgt := 10) hx hb dX12_collects_47 (by decide) ?_
  refine lv_iload_n hx hb dX12_collects_10 rfl (lv_at hl 0 rfl) ?_
  refine lv_bipush (v := 12) hx hb dX12_collects_11 (by decide) ?_
  refine lv_icmp_ge (tgt := 50) hx hb dX12_collects_13 (by decide) (fun c1 => absurd c1 (by decide)) (fun _ => ?_)
  refine lv_aload_n hx hb dX12_collects_16 rfl (lv_at hl 2 rfl) ?_
  refine f_12_24 F w (a := 146) rfl tb_137 dX12_collects_17 ?_
  refine lv_iload_n hx hb dX12_collects_20 rfl (lv_at hl 1 rfl) ?_
  refine lv_iload_n hx hb dX12_collects_21 rfl (lv_at hl 0 rfl) ?_
  refine lv_iadd hx hb dX12_collects_22 ?_
  refine r_val (v := 3) (by decide) ?_
  refine lv_iload_n hx hb dX12_collects_23 rfl (lv_at hl 0 rfl) ?_
  refine lv_aload_n hx hb dX12_collects_24 rfl (lv_at hl 2 rfl) ?_
  refine f_12_2 F w (a := 146) rfl tb_127 dX12_collects_25 ?_
  refine lv_bipush (v := 25) hx hb dX12_collects_28 (by decide) ?_
  refine g_iald F w (a := 148) rfl (j := 25) ⟨by decide, by decide⟩ (by decide) dX12_collects_30 ?_
  refine r_val (v := 0) (h1) ?_
  refine lv_icmp_ge (tgt := 42) hx hb dX12_collects_31 (by decide) (fun _ => ?_) (fun c1 => absurd c1 (by decide))
  refine lv_iconst (v := 0) hx hb dX12_collects_42 (by decide) ?_
  refine g_iast F w (a := 158) rfl (j := 3) ⟨by decide, by decide⟩ (by decide) dX12_collects_43 (fun H locs w => ?_)
  rw [st_same (h5)] at w
  refine lv_iinc (v := 4) (lv' := [(2, .int 4), (1, .int 0), (0, .ref (B + 146))]) hx hb dX12_collects_44 hl (k := 0) rfl (by decide) (by decide) rfl (fun ls hl => ?_)
  refine lv_goto (tgt := 10) hx hb dX12_collects_47 (by decide) ?_
  refine lv_iload_n hx hb dX12_collects_10 rfl (lv_at hl 0 rfl) ?_
  refine lv_bipush (v := 12) hx hb dX12_collects_11 (by decide) ?_
  refine lv_icmp_ge (tgt := 50) hx hb dX12_collects_13 (by decide) (fun c1 => absurd c1 (by decide)) (fun _ => ?_)
  refine lv_aload_n hx hb dX12_collects_16 rfl (lv_at hl 2 rfl) ?_
  refine f_12_24 F w (a := 146) rfl tb_137 dX12_collects_17 ?_
  refine lv_iload_n hx hb dX12_collects_20 rfl (lv_at hl 1 rfl) ?_
  refine lv_iload_n hx hb dX12_collects_21 rfl (lv_at hl 0 rfl) ?_
  refine lv_iadd hx hb dX12_collects_22 ?_
  refine r_val (v := 4) (by decide) ?_
  refine lv_iload_n hx hb dX12_collects_23 rfl (lv_at hl 0 rfl) ?_
  refine lv_aload_n hx hb dX12_collects_24 rfl (lv_at hl 2 rfl) ?_
  refine f_12_2 F w (a := 146) rfl tb_127 dX12_collects_25 ?_
  refine lv_bipush (v := 25) hx hb dX12_collects_28 (by decide) ?_
  refine g_iald F w (a := 148) rfl (j := 25) ⟨by decide, by decide⟩ (by decide) dX12_collects_30 ?_
  refine r_val (v := 0) (h1) ?_
  refine lv_icmp_ge (tgt := 42) hx hb dX12_collects_31 (by decide) (fun _ => ?_) (fun c1 => absurd c1 (by decide))
  refine lv_iconst (v := 0) hx hb dX12_collects_42 (by decide) ?_
  refine g_iast F w (a := 158) rfl (j := 4) ⟨by decide, by decide⟩ (by decide) dX12_collects_43 (fun H locs w => ?_)
  rw [st_same (h6)] at w
  refine lv_iinc (v := 5) (lv' := [(2, .int 5), (1, .int 0), (0, .ref (B + 146))]) hx hb dX12_collects_44 hl (k := 0) rfl (by decide) (by decide) rfl (fun ls hl => ?_)
  refine lv_goto (tgt := 10) hx hb dX12_collects_47 (by decide) ?_
  refine lv_iload_n hx hb dX12_collects_10 rfl (lv_at hl 0 rfl) ?_
  refine lv_bipush (v := 12) hx hb dX12_collects_11 (by decide) ?_
  refine lv_icmp_ge (tgt := 50) hx hb dX12_collects_13 (by decide) (fun c1 => absurd c1 (by decide)) (fun _ => ?_)
  refine lv_aload_n hx hb dX12_collects_16 rfl (lv_at hl 2 rfl) ?_
  refine f_12_24 F w (a := 146) rfl tb_137 dX12_collects_17 ?_
  refine lv_iload_n hx hb dX12_collects_20 rfl (lv_at hl 1 rfl) ?_
  refine lv_iload_n hx hb dX12_collects_21 rfl (lv_at hl 0 rfl) ?_
  refine lv_iadd hx hb dX12_collects_22 ?_
  refine r_val (v := 5) (by decide) ?_
  refine lv_iload_n hx hb dX12_collects_23 rfl (lv_at hl 0 rfl) ?_
  refine lv_aload_n hx hb dX12_collects_24 rfl (lv_at hl 2 rfl) ?_
  refine f_12_2 F w (a := 146) rfl tb_127 dX12_collects_25 ?_
  refine lv_bipush (v := 25) hx hb dX12_collects_28 (by decide) ?_
  refine g_iald F w (a := 148) rfl (j := 25) ⟨by decide, by decide⟩ (by decide) dX12_collects_30 ?_
  refine r_val (v := 0) (h1) ?_
  refine lv_icmp_ge (tgt := 42) hx hb dX12_collects_31 (by decide) (fun _ => ?_) (fun c1 => absurd c1 (by decide))
  refine lv_iconst (v := 0) hx hb dX12_collects_42 (by decide) ?_
  refine g_iast F w (a := 158) rfl (j := 5) ⟨by decide, by decide⟩ (by decide) dX12_collects_43 (fun H locs w => ?_)
  rw [st_same (h7)] at w
  refine lv_iinc (v := 6) (lv' := [(2, .int 6), (1, .int 0), (0, .ref (B + 146))]) hx hb dX12_collects_44 hl (k := 0) rfl (by decide) (by decide) rfl (fun ls hl => ?_)
  refine lv_goto (tgt := 10) hx hb dX12_collects_47 (by decide) ?_
  refine lv_iload_n hx hb dX12_collects_10 rfl (lv_at hl 0 rfl) ?_
  refine lv_bipush (v := 12) hx hb dX12_collects_11 (by decide) ?_
  refine lv_icmp_ge (tgt := 50) hx hb dX12_collects_13 (by decide) (fun c1 => absurd c1 (by decide)) (fun _ => ?_)
  refine lv_aload_n hx hb dX12_collects_16 rfl (lv_at hl 2 rfl) ?_
  refine f_12_24 F w (a := 146) rfl tb_137 dX12_collects_17 ?_
  refine lv_iload_n hx hb dX12_collects_20 rfl (lv_at hl 1 rfl) ?_
  refine lv_iload_n hx hb dX12_collects_21 rfl (lv_at hl 0 rfl) ?_
  refine lv_iadd hx hb dX12_collects_22 ?_
  refine r_val (v := 6) (by decide) ?_
  refine lv_iload_n hx hb dX12_collects_23 rfl (lv_at hl 0 rfl) ?_
  refine lv_aload_n hx hb dX12_collects_24 rfl (lv_at hl 2 rfl) ?_
  refine f_12_2 F w (a := 146) rfl tb_127 dX12_collects_25 ?_
  refine lv_bipush (v := 25) hx hb dX12_collects_28 (by decide) ?_
  refine g_iald F w (a := 148) rfl (j := 25) ⟨by decide, by decide⟩ (by decide) dX12_collects_30 ?_
  refine r_val (v := 0) (h1) ?_
  refine lv_icmp_ge (tgt := 42) hx hb dX12_collects_31 (by decide) (fun _ => ?_) (fun c1 => absurd c1 (by decide))
  refine lv_iconst (v := 0) hx hb dX12_collects_42 (by decide) ?_
  refine g_iast F w (a := 158) rfl (j := 6) ⟨by decide, by decide⟩ (by decide) dX12_collects_43 (fun H locs w => ?_)
  rw [st_same (h8)] at w
  refine lv_iinc (v := 7) (lv' := [(2, .int 7), (1, .int 0), (0, .ref (B + 146))]) hx hb dX12_collects_44 hl (k := 0) rfl (by decide) (by decide) rfl (fun ls hl => ?_)
  refine lv_goto (tgt := 10) hx hb dX12_collects_47 (by decide) ?_
  refine lv_iload_n hx hb dX12_collects_10 rfl (lv_at hl 0 rfl) ?_
  refine lv_bipush (v := 12) hx hb dX12_collects_11 (by decide) ?_
  refine lv_icmp_ge (tgt := 50) hx hb dX12_collects_13 (by decide) (fun c1 => absurd c1 (by decide)) (fun _ => ?_)
  refine lv_aload_n hx hb dX12_collects_16 rfl (lv_at hl 2 rfl) ?_
  refine f_12_24 F w (a := 146) rfl tb_137 dX12_collects_17 ?_
  refine lv_iload_n hx hb dX12_collects_20 rfl (lv_at hl 1 rfl) ?_
  refine lv_iload_n hx hb dX12_collects_21 rfl (lv_at hl 0 rfl) ?_
  refine lv_iadd hx hb dX12_collects_22 ?_
  refine r_val (v := 7) (by decide) ?_
  refine lv_iload_n hx hb dX12_collects_23 rfl (lv_at hl 0 rfl) ?_
  refine lv_aload_n hx hb dX12_collects_24 rfl (lv_at hl 2 rfl) ?_
  refine f_12_2 F w (a := 146) rfl tb_127 dX12_collects_25 ?_
  refine lv_bipush (v := 25) hx hb dX12_collects_28 (by decide) ?_
  refine g_iald F w (a := 148) rfl (j := 25) ⟨by decide, by decide⟩ (by decide) dX12_collects_30 ?_
  refine r_val (v := 0) (h1) ?_
  refine lv_icmp_ge (tgt := 42) hx hb dX12_collects_31 (by decide) (fun _ => ?_) (fun c1 => absurd c1 (by decide))
  refine lv_iconst (v := 0) hx hb dX12_collects_42 (by decide) ?_
  refine g_iast F w (a := 158) rfl (j := 7) ⟨by decide, by decide⟩ (by decide) dX12_collects_43 (fun H locs w => ?_)
  rw [st_same (h9)] at w
  refine lv_iinc (v := 8) (lv' := [(2, .int 8), (1, .int 0), (0, .ref (B + 146))]) hx hb dX12_collects_44 hl (k := 0) rfl (by decide) (by decide) rfl (fun ls hl => ?_)
  refine lv_goto (tgt := 10) hx hb dX12_collects_47 (by decide) ?_
  refine lv_iload_n hx hb dX12_collects_10 rfl (lv_at hl 0 rfl) ?_
  refine lv_bipush (v := 12) hx hb dX12_collects_11 (by decide) ?_
  refine lv_icmp_ge (tgt := 50) hx hb dX12_collects_13 (by decide) (fun c1 => absurd c1 (by decide)) (fun _ => ?_)
  refine lv_aload_n hx hb dX12_collects_16 rfl (lv_at hl 2 rfl) ?_
  refine f_12_24 F w (a := 146) rfl tb_137 dX12_collects_17 ?_
  refine lv_iload_n hx hb dX12_collects_20 rfl (lv_at hl 1 rfl) ?_
  refine lv_iload_n hx hb dX12_collects_21 rfl (lv_at hl 0 rfl) ?_
  refine lv_iadd hx hb dX12_collects_22 ?_
  refine r_val (v := 8) (by decide) ?_
  refine lv_iload_n hx hb dX12_collects_23 rfl (lv_at hl 0 rfl) ?_
  refine lv_aload_n hx hb dX12_collects_24 rfl (lv_at hl 2 rfl) ?_
  refine f_12_2 F w (a := 146) rfl tb_127 dX12_collects_25 ?_
  refine lv_bipush (v := 25) hx hb dX12_collects_28 (by decide) ?_
  refine g_iald F w (a := 148) rfl (j := 25) ⟨by decide, by decide⟩ (by decide) dX12_collects_30 ?_
  refine r_val (v := 0) (h1) ?_
  refine lv_icmp_ge (tgt := 42) hx hb dX12_collects_31 (by decide) (fun _ => ?_) (fun c1 => absurd c1 (by decide))
  refine lv_iconst (v := 0) hx hb dX12_collects_42 (by decide) ?_
  refine g_iast F w (a := 158) rfl (j := 8) ⟨by decide, by decide⟩ (by decide) dX12_collects_43 (fun H locs w => ?_)
  rw [st_same (h10)] at w
  refine lv_iinc (v := 9) (lv' := [(2, .int 9), (1, .int 0), (0, .ref (B + 146))]) hx hb dX12_collects_44 hl (k := 0) rfl (by decide) (by decide) rfl (fun ls hl => ?_)
  refine lv_goto (tgt := 10) hx hb dX12_collects_47 (by decide) ?_
  refine lv_iload_n hx hb dX12_collects_10 rfl (lv_at hl 0 rfl) ?_
  refine lv_bipush (v := 12) hx hb dX12_collects_11 (by decide) ?_
  refine lv_icmp_ge (tgt := 50) hx hb dX12_collects_13 (by decide) (fun c1 => absurd c1 (by decide)) (fun _ => ?_)
  refine lv_aload_n hx hb dX12_collects_16 rfl (lv_at hl 2 rfl) ?_
  refine f_12_24 F w (a := 146) rfl tb_137 dX12_collects_17 ?_
  refine lv_iload_n hx hb dX12_collects_20 rfl (lv_at hl 1 rfl) ?_
  refine lv_iload_n hx hb dX12_collects_21 rfl (lv_at hl 0 rfl) ?_
  refine lv_iadd hx hb dX12_collects_22 ?_
  refine r_val (v := 9) (by decide) ?_
  refine lv_iload_n hx hb dX12_collects_23 rfl (lv_at hl 0 rfl) ?_
  refine lv_aload_n hx hb dX12_collects_24 rfl (lv_at hl 2 rfl) ?_
  refine f_12_2 F w (a := 146) rfl tb_127 dX12_collects_25 ?_
  refine lv_bipush (v := 25) hx hb dX12_collects_28 (by decide) ?_
  refine g_iald F w (a := 148) rfl (j := 25) ⟨by decide, by decide⟩ (by decide) dX12_collects_30 ?_
  refine r_val (v := 0) (h1) ?_
  refine lv_icmp_ge (tgt := 42) hx hb dX12_collects_31 (by decide) (fun _ => ?_) (fun c1 => absurd c1 (by decide))
  refine lv_iconst (v := 0) hx hb dX12_collects_42 (by decide) ?_
  refine g_iast F w (a := 158) rfl (j := 9) ⟨by decide, by decide⟩ (by decide) dX12_collects_43 (fun H locs w => ?_)
  rw [st_same (h11)] at w
  refine lv_iinc (v := 10) (lv' := [(2, .int 10), (1, .int 0), (0, .ref (B + 146))]) hx hb dX12_collects_44 hl (k := 0) rfl (by decide) (by decide) rfl (fun ls hl => ?_)
  refine lv_goto (tgt := 10) hx hb dX12_collects_47 (by decide) ?_
  refine lv_iload_n hx hb dX12_collects_10 rfl (lv_at hl 0 rfl) ?_
  refine lv_bipush (v := 12) hx hb dX12_collects_11 (by decide) ?_
  refine lv_icmp_ge (tgt := 50) hx hb dX12_collects_13 (by decide) (fun c1 => absurd c1 (by decide)) (fun _ => ?_)
  refine lv_aload_n hx hb dX12_collects_16 rfl (lv_at hl 2 rfl) ?_
  refine f_12_24 F w (a := 146) rfl tb_137 dX12_collects_17 ?_
  refine lv_iload_n hx hb dX12_collects_20 rfl (lv_at hl 1 rfl) ?_
  refine lv_iload_n hx hb dX12_collects_21 rfl (lv_at hl 0 rfl) ?_
  refine lv_iadd hx hb dX12_collects_22 ?_
  refine r_val (v := 10) (by decide) ?_
  refine lv_iload_n hx hb dX12_collects_23 rfl (lv_at hl 0 rfl) ?_
  refine lv_aload_n hx hb dX12_collects_24 rfl (lv_at hl 2 rfl) ?_
  refine f_12_2 F w (a := 146) rfl tb_127 dX12_collects_25 ?_
  refine lv_bipush (v := 25) hx hb dX12_collects_28 (by decide) ?_
  refine g_iald F w (a := 148) rfl (j := 25) ⟨by decide, by decide⟩ (by decide) dX12_collects_30 ?_
  refine r_val (v := 0) (h1) ?_
  refine lv_icmp_ge (tgt := 42) hx hb dX12_collects_31 (by decide) (fun _ => ?_) (fun c1 => absurd c1 (by decide))
  refine lv_iconst (v := 0) hx hb dX12_collects_42 (by decide) ?_
  refine g_iast F w (a := 158) rfl (j := 10) ⟨by decide, by decide⟩ (by decide) dX12_collects_43 (fun H locs w => ?_)
  rw [st_same (h12)] at w
  refine lv_iinc (v := 11) (lv' := [(2, .int 11), (1, .int 0), (0, .ref (B + 146))]) hx hb dX12_collects_44 hl (k := 0) rfl (by decide) (by decide) rfl (fun ls hl => ?_)
  refine lv_goto (tgt := 10) hx hb dX12_collects_47 (by decide) ?_
  refine lv_iload_n hx hb dX12_collects_10 rfl (lv_at hl 0 rfl) ?_
  refine lv_bipush (v := 12) hx hb dX12_collects_11 (by decide) ?_
  refine lv_icmp_ge (tgt := 50) hx hb dX12_collects_13 (by decide) (fun c1 => absurd c1 (by decide)) (fun _ => ?_)
  refine lv_aload_n hx hb dX12_collects_16 rfl (lv_at hl 2 rfl) ?_
  refine f_12_24 F w (a := 146) rfl tb_137 dX12_collects_17 ?_
  refine lv_iload_n hx hb dX12_collects_20 rfl (lv_at hl 1 rfl) ?_
  refine lv_iload_n hx hb dX12_collects_21 rfl (lv_at hl 0 rfl) ?_
  refine lv_iadd hx hb dX12_collects_22 ?_
  refine r_val (v := 11) (by decide) ?_
  refine lv_iload_n hx hb dX12_collects_23 rfl (lv_at hl 0 rfl) ?_
  refine lv_aload_n hx hb dX12_collects_24 rfl (lv_at hl 2 rfl) ?_
  refine f_12_2 F w (a := 146) rfl tb_127 dX12_collects_25 ?_
  refine lv_bipush (v := 25) hx hb dX12_collects_28 (by decide) ?_
  refine g_iald F w (a := 148) rfl (j := 25) ⟨by decide, by decide⟩ (by decide) dX12_collects_30 ?_
  refine r_val (v := 0) (h1) ?_
  refine lv_icmp_ge (tgt := 42) hx hb dX12_collects_31 (by decide) (fun _ => ?_) (fun c1 => absurd c1 (by decide))
  refine lv_iconst (v := 0) hx hb dX12_collects_42 (by decide) ?_
  refine g_iast F w (a := 158) rfl (j := 11) ⟨by decide, by decide⟩ (by decide) dX12_collects_43 (fun H locs w => ?_)
  rw [st_same (h13)] at w
  refine lv_iinc (v := 12) (lv' := [(2, .int 12), (1, .int 0), (0, .ref (B + 146))]) hx hb dX12_collects_44 hl (k := 0) rfl (by decide) (by decide) rfl (fun ls hl => ?_)
  refine lv_goto (tgt := 10) hx hb dX12_collects_47 (by decide) ?_
  refine lv_iload_n hx hb dX12_collects_10 rfl (lv_at hl 0 rfl) ?_
  refine lv_bipush (v := 12) hx hb dX12_collects_11 (by decide) ?_
  refine lv_icmp_ge (tgt := 50) hx hb dX12_collects_13 (by decide) (fun _ => ?_) (fun c1 => absurd c1 (by decide))
  refine lv_iconst (v := 0) hx hb dX12_collects_50 (by decide) ?_
  refine lv_istore_n (lv' := [(2, .int 0), (1, .int 0), (0, .ref (B + 146))]) hx hb dX12_collects_51 rfl hl (by decide) rfl (fun ls hl => ?_)
  refine lv_iload_n hx hb dX12_collects_52 rfl (lv_at hl 0 rfl) ?_
  refine lv_aload_n hx hb dX12_collects_53 rfl (lv_at hl 2 rfl) ?_
  refine f_12_25 F w (a := 146) rfl tb_537 dX12_collects_54 ?_
  refine r_val (v := 0) (h0) ?_
  refine lv_icmp_ge (tgt := 123) hx hb dX12_collects_57 (by decide) (fun _ => ?_) (fun c1 => absurd c1 (by decide))
  refine lv_aload_n hx hb dX12_collects_123 rfl (lv_at hl 2 rfl) ?_
  refine lv_dup hx hb dX12_collects_124 rfl ?_
  refine f_12_25 F w (a := 146) rfl tb_537 dX12_collects_125 ?_
  refine r_val (v := 0) (h0) ?_
  refine lv_iconst (v := 1) hx hb dX12_collects_128 (by decide) ?_
  refine lv_iadd hx hb dX12_collects_129 ?_
  refine r_val (v := 1) (by decide) ?_
  refine u_12_25 F w (a := 146) rfl tb_537 dX12_collects_130 (fun H locs w => ?_)
  exact e_v F w hr hlocks rfl dX12_collects_133
theorem tk_X12_collects : Cond.code yX12_collects cX12_collects 5 none ∈ TB := tbm (tc7 (List.mem_of_getElem? (i := 20) rfl)) rfl
theorem gc_X12_collects : GoodIn TB (cw yX12_collects cX12_collects 5 none) := goodIn_c2 tk_X12_collects
theorem tb_544 : Cond.methodLink "ToneLinesModel" 315 yX12_collects ∈ TB := tbm (tc7 (List.mem_of_getElem? (i := 17) rfl)) rfl
theorem tb_545 : Cond.instanceMethod yX12_collects ∈ TB := tbm (tc7 (List.mem_of_getElem? (i := 19) rfl)) rfl
theorem tb_546 : Cond.selects "ToneLinesModel" yX12_collects yX12_collects ∈ TB := tbp (List.mem_of_getElem? (i := 88) rfl) rfl
theorem gv_X12_315 : GoodIn TB (wsV RX12 315 RX12 yX12_collects (cw yX12_collects cX12_collects 5 none)) := goodIn_4 tb_544 tb_545 tb_546 tb_150 gc_X12_collects
theorem hv_X12_collects : yX12_collects.cls = RX12 ∧ yX12_collects.cls ≠ "java/lang/invoke/MethodHandle" ∧ yX12_collects.cls ≠ "java/lang/invoke/VarHandle" ∧ (parseMethodDescriptor yX12_collects.desc).map (fun d => d.parameters.length) = some 0 := by decide +kernel
theorem dX12_orders_85 : decode cX12_orders 85 = .ok (.iinc 4 1, 3) := by decide +kernel
theorem dX12_orders_88 : decode cX12_orders 88 = .ok (.goto (-29), 3) := by decide +kernel
theorem dX12_orders_91 : decode cX12_orders 91 = .ok (.iload_n 1, 1) := by decide +kernel
theorem dX12_orders_92 : decode cX12_orders 92 = .ok (.ifCond .ne 10, 3) := by decide +kernel
theorem dX12_orders_95 : decode cX12_orders 95 = .ok (.aload_n 0, 1) := by decide +kernel
theorem dX12_orders_96 : decode cX12_orders 96 = .ok (.getfield 309, 3) := by decide +kernel
theorem dX12_orders_99 : decode cX12_orders 99 = .ok (.goto 4, 3) := by decide +kernel
theorem dX12_orders_103 : decode cX12_orders 103 = .ok (.ireturn, 1) := by decide +kernel
set_option maxRecDepth 4000 in
theorem c_X12_orders_359 {l : Launch} {D : va_G} {B : Nat} {cy : Nat → ClassId} {M : Mem} (h0 : M.1 146 5 = 0) (h1 : M.1 147 0 = 0) (h2 : M.1 148 0 = 0) (h3 : M.1 147 1 = 0) (h4 : M.1 148 1 = 0) (h5 : M.1 147 2 = 0) (h6 : M.1 148 2 = 0) (h7 : M.1 147 3 = 0) (h8 : M.1 148 3 = 0) (h9 : M.1 147 4 = 0) (h10 : M.1 148 4 = 0) (h11 : M.1 147 5 = 0) (h12 : M.1 148 5 = 0) (h13 : M.1 147 6 = 0) (h14 : M.1 148 6 = 0) (h15 : M.1 147 7 = 0) (h16 : M.1 148 7 = 0) (h17 : M.1 147 8 = 0) (h18 : M.1 148 8 = 0) (h19 : M.1 147 9 = 0) (h20 : M.1 148 9 = 0) (h21 : M.1 147 10 = 0) (h22 : M.1 148 10 = 0) (h23 : M.1 147 11 = 0) (h24 : M.1 148 11 = 0) (h25 : M.1 147 12 = 0) (h26 : M.1 148 12 = 0) (h27 : M.1 147 13 = 0) (h28 : M.1 148 13 = 0) (h29 : M.1 147 14 = 0) (h30 : M.1 148 14 = 0) (h31 : M.1 147 15 = 0) (h32 : M.1 148 15 = 0) (h33 : M.1 147 16 = 0) (h34 : M.1 148 16 = 0) (h35 : M.1 147 17 = 0) (h36 : M.1 148 17 = 0) (h37 : M.1 147 18 = 0) (h38 : M.1 148 18 = 0) (h39 : M.1 147 19 = 0) (h40 : M.1 148 19 = 0) (h41 : M.1 147 20 = 0) (h42 : M.1 148 20 = 0) (h43 : M.1 147 21 = 0) (h44 : M.1 148 21 = 0) (h45 : M.1 147 22 = 0) (h46 : M.1 148 22 = 0) (h47 : M.1 147 23 = 0) (h48 : M.1 148 23 = 0) (h49 : M.1 147 24 = 0) (h50 : M.1 148 24 = 0) (h51 : M.1 147 25 = 0) (h52 : M.1 148 25 = 0) (h53 : M.1 147 26 = 0) (h54 : M.1 148 26 = 0) (h55 : M.1 147 27 = 0) (h56 : M.1 148 27 = 0) (h57 : M.1 157 0 = 0) (h58 : M.1 157 1 = 0) (h59 : M.1 157 2 = 0) (h60 : M.1 157 3 = 0) (h61 : M.1 157 4 = 0) (h62 : M.1 157 5 = 0) (h63 : M.1 157 6 = 0) (h64 : M.1 157 7 = 0) (h65 : M.1 157 8 = 0) (h66 : M.1 157 9 = 0) (h67 : M.1 157 10 = 0) (h68 : M.1 157 11 = 0) (h69 : M.1 146 25 = 0) (h70 : M.1 158 0 = 0) (h71 : M.1 158 1 = 0) (h72 : M.1 158 2 = 0) (h73 : M.1 158 3 = 0) (h74 : M.1 158 4 = 0) (h75 : M.1 158 5 = 0) (h76 : M.1 158 6 = 0) (h77 : M.1 158 7 = 0) (h78 : M.1 158 8 = 0) (h79 : M.1 158 9 = 0) (h80 : M.1 158 10 = 0) (h81 : M.1 158 11 = 0) : Ci l D B cy yX12_orders cX12_orders 5 (some .int) 3 66 [.ref (B + 146), .int 0] M (fun r M1 => r = 1 ∧ M1 = (st M 146 25 1)) := by
  refine s_any (by decide) (Nat.le_of_ble_eq_true rfl) ?_
  intro p e s m below meth c ls F hr hlocks w hl
  have F : CallFix p m c cX12_orders 5 s _ TB RX12 := F
  have hx := F.1
  have hb := F.2.1
  have hl : lv_has ls 5 [(0, .ref (B + 146)), (1, .int 0)] := hl
  refine lv_iload_n hx hb dX12_orders_0 rfl (lv_at hl 1 rfl) ?_
  refine lv_iconst (v := 0) hx hb dX12_orders_1 (by decide) ?_
  refine lv_iconst (v := 1) hx hb dX12_orders_2 (by decide) ?_
  refine x_Si F w (As := [.int 0, .int 0, .int 1]) (rest := []) (c_X12_in_355) gs_X12_55 hs_X12_in ⟨Nat.le_of_ble_eq_true rfl, Nat.le_of_ble_eq_true rfl⟩ hl.1 rfl (Nat.le_of_ble_eq_true rfl) ⟨Nat.zero_le _, Nat.zero_le _⟩ dX12_orders_3 (fun H locs w => ?_)
  refine lv_if_ne (tgt := 11) hx hb dX12_orders_6 (by decide) (fun _ => ?_) (fun c1 => absurd c1 (by decide))
  refine lv_aload_n hx hb dX12_orders_11 rfl (lv_at hl 0 rfl) ?_
  refine f_12_5 F w (a := 146) rfl tb_227 dX12_orders_12 ?_
  refine r_val (v := 0) (h0) ?_
  refine lv_bipush (v := 6) hx hb dX12_orders_15 (by decide) ?_
  refine lv_icmp_le (tgt := 23) hx hb dX12_orders_17 (by decide) (fun _ => ?_) (fun c1 => absurd c1 (by decide))
  refine lv_aload_n hx hb dX12_orders_23 rfl (lv_at hl 0 rfl) ?_
  refine x_Vv F w (As := []) (rest := []) (a := 146) (by decide) (sh_12 rfl _ _) rfl (c_X12_laysDue_340 (h0) (h1) (h2) (h3) (h4) (h5) (h6) (h7) (h8) (h9) (h10) (h11) (h12) (h13) (h14) (h15) (h16) (h17) (h18) (h19) (h20) (h21) (h22) (h23) (h24) (h25) (h26) (h27) (h28) (h29) (h30) (h31) (h32) (h33) (h34) (h35) (h36) (h37) (h38) (h39) (h40) (h41) (h42) (h43) (h44) (h45) (h46) (h47) (h48) (h49) (h50) (h51) (h52) (h53) (h54) (h55) (h56) (h57) (h58) (h59) (h60) (h61) (h62) (h63) (h64) (h65) (h66) (h67) (h68)) gv_X12_303 hv_X12_laysDue ⟨Nat.le_of_ble_eq_true rfl, Nat.le_of_ble_eq_true rfl⟩ hl.1 rfl (Nat.le_of_ble_eq_true rfl) ⟨Nat.zero_le _, Nat.zero_le _⟩ dX12_orders_24 (fun H locs w => ?_)
  refine lv_iconst (v := 1) hx hb dX12_orders_27 (by decide) ?_
  refine lv_istore_n (lv' := [(2, .int 1), (0, .ref (B + 146)), (1, .int 0)]) hx hb dX12_orders_28 rfl hl (by decide) rfl (fun ls hl => ?_)
  refine lv_iconst (v := 2) hx hb dX12_orders_29 (by decide) ?_
  refine lv_istore_n (lv' := [(3, .int 2), (2, .int 1), (0, .ref (B + 146)), (1, .int 0)]) hx hb dX12_orders_30 rfl hl (by decide) rfl (fun ls hl => ?_)
  refine lv_iload_n hx hb dX12_orders_31 rfl (lv_at hl 0 rfl) ?_
  refine lv_aload_n hx hb dX12_orders_32 rfl (lv_at hl 2 rfl) ?_
  refine f_12_5 F w (a := 146) rfl tb_227 dX12_orders_33 ?_
  refine r_val (v := 0) (h0) ?_
  refine lv_icmp_gt (tgt := 49) hx hb dX12_orders_36 (by decide) (fun _ => ?_) (fun c1 => absurd c1 (by decide))
  refine lv_iconst (v := 0) hx hb dX12_orders_49 (by decide) ?_
  refine lv_istore_n (lv' := [(3, .int 0), (2, .int 1), (0, .ref (B + 146)), (1, .int 0)]) hx hb dX12_orders_50 rfl hl (by decide) rfl (fun ls hl => ?_)
  refine lv_aload_n hx hb dX12_orders_51 rfl (lv_at hl 2 rfl) ?_
  refine lv_iconst (v := 0) hx hb dX12_orders_52 (by decide) ?_
  refine u_12_25 F w (a := 146) rfl tb_537 dX12_orders_53 (fun H locs w => ?_)
  rw [st_same (h69)] at w
  refine lv_iconst (v := 0) hx hb dX12_orders_56 (by decide) ?_
  refine lv_istore (lv' := [(4, .int 0), (3, .int 0), (2, .int 1), (0, .ref (B + 146)), (1, .int 0)]) hx hb dX12_orders_57 hl (by decide) rfl (fun ls hl => ?_)
  refine lv_iload hx hb dX12_orders_59 (lv_at hl 0 rfl) ?_
  refine lv_iload_n hx hb dX12_orders_61 rfl (lv_at hl 2 rfl) ?_
  refine lv_icmp_ge (tgt := 91) hx hb dX12_orders_62 (by decide) (fun c1 => absurd c1 (by decide)) (fun _ => ?_)
  refine lv_aload_n hx hb dX12_orders_65 rfl (lv_at hl 3 rfl) ?_
  refine lv_iload hx hb dX12_orders_66 (lv_at hl 0 rfl) ?_
  refine x_Vv F w (As := [.int 0]) (rest := []) (a := 146) (by decide) (sh_12 rfl _ _) rfl (c_X12_worksOrder_356 (h1) (h2) (h3) (h4) (h5) (h6) (h7) (h8) (h9) (h10) (h11) (h12) (h13) (h14) (h15) (h16) (h17) (h18) (h19) (h20) (h21) (h22) (h23) (h24) (h25) (h26) (h27) (h28) (h29) (h30) (h31) (h32) (h33) (h34) (h35) (h36) (h37) (h38) (h39) (h40) (h41) (h42) (h43) (h44) (h45) (h46) (h47) (h48) (h49) (h50) (h51) (h52) (h53) (h54) (h55) (h56) (h0)) gv_X12_312 hv_X12_worksOrder ⟨Nat.le_of_ble_eq_true rfl, Nat.le_of_ble_eq_true rfl⟩ hl.1 rfl (Nat.le_of_ble_eq_true rfl) ⟨Nat.zero_le _, Nat.zero_le _⟩ dX12_orders_68 (fun H locs w => ?_)
  refine lv_aload_n hx hb dX12_orders_71 rfl (lv_at hl 3 rfl) ?_
  refine x_Vi F w (As := []) (rest := []) (a := 146) (by decide) (sh_12 rfl _ _) rfl (c_X12_isDue_357 (h52)) gv_X12_306 hv_X12_isDue ⟨Nat.le_of_ble_eq_true rfl, Nat.le_of_ble_eq_true rfl⟩ hl.1 rfl (Nat.le_of_ble_eq_true rfl) ⟨Nat.zero_le _, Nat.zero_le _⟩ dX12_orders_72 (fun H locs w => ?_)
  refine lv_if_eq (tgt := 81) hx hb dX12_orders_75 (by decide) (fun c1 => absurd c1 (by decide)) (fun _ => ?_)
  refine lv_iinc (v := 1) (lv' := [(3, .int 1), (4, .int 0), (2, .int 1), (0, .ref (B + 146)), (1, .int 0)]) hx hb dX12_orders_78 hl (k := 1) rfl (by decide) (by decide) rfl (fun ls hl => ?_)
  refine lv_aload_n hx hb dX12_orders_81 rfl (lv_at hl 3 rfl) ?_
  refine x_Vv F w (As := []) (rest := []) (a := 146) (by decide) (sh_12 rfl _ _) rfl (c_X12_collects_358 (h69) (h52) (h70) (h71) (h72) (h73) (h74) (h75) (h76) (h77) (h78) (h79) (h80) (h81)) gv_X12_315 hv_X12_collects ⟨Nat.le_of_ble_eq_true rfl, Nat.le_of_ble_eq_true rfl⟩ hl.1 rfl (Nat.le_of_ble_eq_true rfl) ⟨Nat.zero_le _, Nat.zero_le _⟩ dX12_orders_82 (fun H locs w => ?_)
  refine lv_iinc (v := 1) (lv' := [(4, .int 1), (3, .int 1), (2, .int 1), (0, .ref (B + 146)), (1, .int 0)]) hx hb dX12_orders_85 hl (k := 1) rfl (by decide) (by decide) rfl (fun ls hl => ?_)
  refine lv_goto (tgt := 59) hx hb dX12_orders_88 (by decide) ?_
  refine lv_iload hx hb dX12_orders_59 (lv_at hl 0 rfl) ?_
  refine lv_iload_n hx hb dX12_orders_61 rfl (lv_at hl 2 rfl) ?_
  refine lv_icmp_ge (tgt := 91) hx hb dX12_orders_62 (by decide) (fun _ => ?_) (fun c1 => absurd c1 (by decide))
  refine lv_iload_n hx hb dX12_orders_91 rfl (lv_at hl 4 rfl) ?_
  refine lv_if_ne (tgt := 102) hx hb dX12_orders_92 (by decide) (fun c1 => absurd c1 (by decide)) (fun _ => ?_)
  refine lv_aload_n hx hb dX12_orders_95 rfl (lv_at hl 3 rfl) ?_
  refine f_12_25 F w (a := 146) rfl tb_537 dX12_orders_96 ?_
  refine r_val (v := 1) (st_at) ?_
  refine lv_goto (tgt := 103) hx hb dX12_orders_99 (by decide) ?_
  exact e_i F w hr hlocks ⟨rfl, rfl⟩ dX12_orders_103
set_option maxRecDepth 8000 in
theorem la_25_87 {p : Program} {l : Launch} {e : Env} {s : State} {m : MethodId} {below : List Frame} {meth : Method} {c : Code} {D : va_G} {B b : Nat} {cy : Nat → ClassId} {H : Heap} {locs : List Loc} {ls : Array Slot} {xs : Nat → Int32} {Q : State → Prop} (F : CallFix p m c code 4 s #[Value.ref b] TB RL) (hX : va_X b 6 xs s s.heap) (hbl : b < s.heap.size) (hbA : ¬ B ≤ b) (w : Wd D B cy s s.heap M0 H locs) (hl : lv_has ls 4 [(3, .int 0), (2, .ref (B + 146)), (1, .ref (B + 0)), (0, .ref b)]) (x1 : xs 1 = 0) (kk : ∀ (M1 : Mem) (H1 : Heap) (locs1 : List Loc), Wd D B cy s s.heap M1 H1 locs1 → W p l e room_1 s m #[Value.ref b] below meth c H1 locs1 159 13107 Q (F0 m 1065 ls [])) : W p l e room_1 s m #[Value.ref b] below meth c H locs 159 13107 Q (F0 m 973 ls []) := by
  have hx := F.1
  have hb := F.2.1
  refine lv_aload_n hx hb dL_law_973 rfl (lv_at hl 2 rfl) ?_
  refine lv_aload_n hx hb dL_law_974 rfl (lv_at hl 3 rfl) ?_
  refine lv_iload_n hx hb dL_law_975 rfl (lv_at hl 0 rfl) ?_
  refine lv_iconst (v := 1) hx hb dL_law_976 (by decide) ?_
  refine lv_iadd hx hb dL_law_977 ?_
  refine r_val (v := 1) (by decide) ?_
  refine va_sld hx hb hX hbl hbA w.2.2.1 (vpi (by decide) (by decide)) dL_law_978 ?_
  refine r_val (v := 0) ((congrArg xs (show (1 : Int32).toNatClampNeg = 1 by decide)).trans x1) ?_
  refine x_Vi F w (As := [.int 0]) (rest := []) (a := 0) (by decide) (sh_11 rfl _ _) rfl (c_X11_orders_354 (rfl) (rfl) (rfl) (rfl) (rfl) (rfl) (rfl) (rfl) (rfl) (rfl) (rfl) (fun k hk => ((fun k hk => rfl) k hk)) (fun k hk => ((fun k hk => rfl) k hk)) (fun k hk => ((fun k hk => rfl) k hk)) (fun k hk => ((fun k hk => rfl) k hk)) (rfl) (rfl) rfl rfl) gv_L_123 hv_X11_orders ⟨Nat.le_of_ble_eq_true rfl, Nat.le_of_ble_eq_true rfl⟩ hl.1 rfl (Nat.le_of_ble_eq_true rfl) ⟨Nat.le_of_ble_eq_true rfl, Nat.le_of_ble_eq_true rfl⟩ dL_law_979 (fun H locs w => ?_)
  refine lv_aload_n hx hb dL_law_982 rfl (lv_at hl 1 rfl) ?_
  refine lv_aload_n hx hb dL_law_983 rfl (lv_at hl 3 rfl) ?_
  refine lv_iload_n hx hb dL_law_984 rfl (lv_at hl 0 rfl) ?_
  refine lv_iconst (v := 1) hx hb dL_law_985 (by decide) ?_
  refine lv_iadd hx hb dL_law_986 ?_
  refine r_val (v := 1) (by decide) ?_
  refine va_sld hx hb hX hbl hbA w.2.2.1 (vpi (by decide) (by decide)) dL_law_987 ?_
  refine r_val (v := 0) ((congrArg xs (show (1 : Int32).toNatClampNeg = 1 by decide)).trans x1) ?_
  refine x_Vi F w (As := [.int 0]) (rest := [.int 1]) (a := 146) (by decide) (sh_12 rfl _ _) rfl (c_X12_orders_359 ((st_ne (by decide)).trans ((st_ne (by decide)).trans ((st_ne (by decide)).trans rfl))) ((st_ne (by decide)).trans ((st_ne (by decide)).trans ((st_ne (by decide)).trans rfl))) ((st_ne (by decide)).trans ((st_ne (by decide)).trans ((st_ne (by decide)).trans rfl))) ((st_ne (by decide)).trans ((st_ne (by decide)).trans ((st_ne (by decide)).trans rfl))) ((st_ne (by decide)).trans ((st_ne (by decide)).trans ((st_ne (by decide)).trans rfl))) ((st_ne (by decide)).trans ((st_ne (by decide)).trans ((st_ne (by decide)).trans rfl))) ((st_ne (by decide)).trans ((st_ne (by decide)).trans ((st_ne (by decide)).trans rfl))) ((st_ne (by decide)).trans ((st_ne (by decide)).trans ((st_ne (by decide)).trans rfl))) ((st_ne (by decide)).trans ((st_ne (by decide)).trans ((st_ne (by decide)).trans rfl))) ((st_ne (by decide)).trans ((st_ne (by decide)).trans ((st_ne (by decide)).trans rfl))) ((st_ne (by decide)).trans ((st_ne (by decide)).trans ((st_ne (by decide)).trans rfl))) ((st_ne (by decide)).trans ((st_ne (by decide)).trans ((st_ne (by decide)).trans rfl))) ((st_ne (by decide)).trans ((st_ne (by decide)).trans ((st_ne (by decide)).trans rfl))) ((st_ne (by decide)).trans ((st_ne (by decide)).trans ((st_ne (by decide)).trans rfl))) ((st_ne (by decide)).trans ((st_ne (by decide)).trans ((st_ne (by decide)).trans rfl))) ((st_ne (by decide)).trans ((st_ne (by decide)).trans ((st_ne (by decide)).trans rfl))) ((st_ne (by decide)).trans ((st_ne (by decide)).trans ((st_ne (by decide)).trans rfl))) ((st_ne (by decide)).trans ((st_ne (by decide)).trans ((st_ne (by decide)).trans rfl))) ((st_ne (by decide)).trans ((st_ne (by decide)).trans ((st_ne (by decide)).trans rfl))) ((st_ne (by decide)).trans ((st_ne (by decide)).trans ((st_ne (by decide)).trans rfl))) ((st_ne (by decide)).trans ((st_ne (by decide)).trans ((st_ne (by decide)).trans rfl))) ((st_ne (by decide)).trans ((st_ne (by decide)).trans ((st_ne (by decide)).trans rfl))) ((st_ne (by decide)).trans ((st_ne (by decide)).trans ((st_ne (by decide)).trans rfl))) ((st_ne (by decide)).trans ((st_ne (by decide)).trans ((st_ne (by decide)).trans rfl))) ((st_ne (by decide)).trans ((st_ne (by decide)).trans ((st_ne (by decide)).trans rfl))) ((st_ne (by decide)).trans ((st_ne (by decide)).trans ((st_ne (by decide)).trans rfl))) ((st_ne (by decide)).trans ((st_ne (by decide)).trans ((st_ne (by decide)).trans rfl))) ((st_ne (by decide)).trans ((st_ne (by decide)).trans ((st_ne (by decide)).trans rfl))) ((st_ne (by decide)).trans ((st_ne (by decide)).trans ((st_ne (by decide)).trans rfl))) ((st_ne (by decide)).trans ((st_ne (by decide)).trans ((st_ne (by decide)).trans rfl))) ((st_ne (by decide)).trans ((st_ne (by decide)).trans ((st_ne (by decide)).trans rfl))) ((st_ne (by decide)).trans ((st_ne (by decide)).trans ((st_ne (by decide)).trans rfl))) ((st_ne (by decide)).trans ((st_ne (by decide)).trans ((st_ne (by decide)).trans rfl))) ((st_ne (by decide)).trans ((st_ne (by decide)).trans ((st_ne (by decide)).trans rfl))) ((st_ne (by decide)).trans ((st_ne (by decide)).trans ((st_ne (by decide)).trans rfl))) ((st_ne (by decide)).trans ((st_ne (by decide)).trans ((st_ne (by decide)).trans rfl))) ((st_ne (by decide)).trans ((st_ne (by decide)).trans ((st_ne (by decide)).trans rfl))) ((st_ne (by decide)).trans ((st_ne (by decide)).trans ((st_ne (by decide)).trans rfl))) ((st_ne (by decide)).trans ((st_ne (by decide)).trans ((st_ne (by decide)).trans rfl))) ((st_ne (by decide)).trans ((st_ne (by decide)).trans ((st_ne (by decide)).trans rfl))) ((st_ne (by decide)).trans ((st_ne (by decide)).trans ((st_ne (by decide)).trans rfl))) ((st_ne (by decide)).trans ((st_ne (by decide)).trans ((st_ne (by decide)).trans rfl))) ((st_ne (by decide)).trans ((st_ne (by decide)).trans ((st_ne (by decide)).trans rfl))) ((st_ne (by decide)).trans ((st_ne (by decide)).trans ((st_ne (by decide)).trans rfl))) ((st_ne (by decide)).trans ((st_ne (by decide)).trans ((st_ne (by decide)).trans rfl))) ((st_ne (by decide)).trans ((st_ne (by decide)).trans ((st_ne (by decide)).trans rfl))) ((st_ne (by decide)).trans ((st_ne (by decide)).trans ((st_ne (by decide)).trans rfl))) ((st_ne (by decide)).trans ((st_ne (by decide)).trans ((st_ne (by decide)).trans rfl))) ((st_ne (by decide)).trans ((st_ne (by decide)).trans ((st_ne (by decide)).trans rfl))) ((st_ne (by decide)).trans ((st_ne (by decide)).trans ((st_ne (by decide)).trans rfl))) ((st_ne (by decide)).trans ((st_ne (by decide)).trans ((st_ne (by decide)).trans rfl))) ((st_ne (by decide)).trans ((st_ne (by decide)).trans ((st_ne (by decide)).trans rfl))) ((st_ne (by decide)).trans ((st_ne (by decide)).trans ((st_ne (by decide)).trans rfl))) ((st_ne (by decide)).trans ((st_ne (by decide)).trans ((st_ne (by decide)).trans rfl))) ((st_ne (by decide)).trans ((st_ne (by decide)).trans ((st_ne (by decide)).trans rfl))) ((st_ne (by decide)).trans ((st_ne (by decide)).trans ((st_ne (by decide)).trans rfl))) ((st_ne (by decide)).trans ((st_ne (by decide)).trans ((st_ne (by decide)).trans rfl))) ((st_ne (by decide)).trans ((st_ne (by decide)).trans ((st_ne (by decide)).trans rfl))) ((st_ne (by decide)).trans ((st_ne (by decide)).trans ((st_ne (by decide)).trans rfl))) ((st_ne (by decide)).trans ((st_ne (by decide)).trans ((st_ne (by decide)).trans rfl))) ((st_ne (by decide)).trans ((st_ne (by decide)).trans ((st_ne (by decide)).trans rfl))) ((st_ne (by decide)).trans ((st_ne (by decide)).trans ((st_ne (by decide)).trans rfl))) ((st_ne (by decide)).trans ((st_ne (by decide)).trans ((st_ne (by decide)).trans rfl))) ((st_ne (by decide)).trans ((st_ne (by decide)).trans ((st_ne (by decide)).trans rfl))) ((st_ne (by decide)).trans ((st_ne (by decide)).trans ((st_ne (by decide)).trans rfl))) ((st_ne (by decide)).trans ((st_ne (by decide)).trans ((st_ne (by decide)).trans rfl))) ((st_ne (by decide)).trans ((st_ne (by decide)).trans ((st_ne (by decide)).trans rfl))) ((st_ne (by decide)).trans ((st_ne (by decide)).trans ((st_ne (by decide)).trans rfl))) ((st_ne (by decide)).trans ((st_ne (by decide)).trans ((st_ne (by decide)).trans rfl))) ((st_ne (by decide)).trans ((st_ne (by decide)).trans ((st_ne (by decide)).trans rfl))) ((st_ne (by decide)).trans ((st_ne (by decide)).trans ((st_ne (by decide)).trans rfl))) ((st_ne (by decide)).trans ((st_ne (by decide)).trans ((st_ne (by decide)).trans rfl))) ((st_ne (by decide)).trans ((st_ne (by decide)).trans ((st_ne (by decide)).trans rfl))) ((st_ne (by decide)).trans ((st_ne (by decide)).trans ((st_ne (by decide)).trans rfl))) ((st_ne (by decide)).trans ((st_ne (by decide)).trans ((st_ne (by decide)).trans rfl))) ((st_ne (by decide)).trans ((st_ne (by decide)).trans ((st_ne (by decide)).trans rfl))) ((st_ne (by decide)).trans ((st_ne (by decide)).trans ((st_ne (by decide)).trans rfl))) ((st_ne (by decide)).trans ((st_ne (by decide)).trans ((st_ne (by decide)).trans rfl))) ((st_ne (by decide)).trans ((st_ne (by decide)).trans ((st_ne (by decide)).trans rfl))) ((st_ne (by decide)).trans ((st_ne (by decide)).trans ((st_ne (by decide)).trans rfl))) ((st_ne (by decide)).trans ((st_ne (by decide)).trans ((st_ne (by decide)).trans rfl))) ((st_ne (by decide)).trans ((st_ne (by decide)).trans ((st_ne (by decide)).trans rfl)))) gv_L_126 hv_X12_orders ⟨Nat.le_of_ble_eq_true rfl, Nat.le_of_ble_eq_true rfl⟩ hl.1 rfl (Nat.le_of_ble_eq_true rfl) ⟨Nat.le_of_ble_eq_true rfl, Nat.le_of_ble_eq_true rfl⟩ dL_law_988 (fun H locs w => ?_)
  refine lv_icmp_eq (tgt := 1065) hx hb dL_law_991 (by decide) (fun _ => ?_) (fun c1 => absurd c1 (by decide))
  exact kk _ _ _ w
theorem dX11_orders_75 : decode cX11_orders 75 = .ok (.aload_n 0, 1) := by decide +kernel
theorem dX11_orders_76 : decode cX11_orders 76 = .ok (.getfield 54, 3) := by decide +kernel
theorem dX11_orders_79 : decode cX11_orders 79 = .ok (.getfield 282, 3) := by decide +kernel
theorem tb_547 : Cond.fieldLink "ToneLines" 282 "ToneLines$Orders" "same" "I" ∈ TB := tbm (tc1 (List.mem_of_getElem? (i := 234) rfl)) rfl
set_option maxRecDepth 4000 in
theorem c_X11_orders_360 {l : Launch} {D : va_G} {B : Nat} {cy : Nat → ClassId} {M : Mem} (h0 : M.1 22 2 = 0) (h1 : M.1 109 0 = 0) (h2 : M.1 22 7 = 0) (h3 : M.1 44 0 = 0) (h4 : M.1 44 1 = 0) (h5 : M.1 114 1 = 0) (h6 : M.1 44 2 = 0) (h7 : M.1 114 2 = 0) (h8 : M.1 44 3 = 0) (h9 : M.1 114 3 = 0) (h10 : M.1 114 0 = 0) (h11 : ∀ k, k < 12 → M.1 45 k = 0) (h12 : ∀ k, k < 12 → M.1 115 k = 0) (h13 : ∀ k, k < 12 → M.1 46 k = 0) (h14 : ∀ k, k < 12 → M.1 116 k = 0) (h15 : M.1 109 1 = 0) (h16 : M.1 109 2 = 0) (h17 : M.2 112 0 = 0) (h18 : M.2 113 0 = 0) : Ci l D B cy yX11_orders cX11_orders 2 (some .int) 3 95 [.ref (B + 0), .int 1] M (fun r M1 => r = 1 ∧ M1 = (st (st (st M 109 1 1) 109 2 1) 109 0 1)) := by
  refine s_any (by decide) (Nat.le_of_ble_eq_true rfl) ?_
  intro p e s m below meth c ls F hr hlocks w hl
  have F : CallFix p m c cX11_orders 2 s _ TB RX11 := F
  have hx := F.1
  have hb := F.2.1
  have hl : lv_has ls 2 [(0, .ref (B + 0)), (1, .int 1)] := hl
  refine lv_iload_n hx hb dX11_orders_0 rfl (lv_at hl 1 rfl) ?_
  refine lv_if_lt (tgt := 9) hx hb dX11_orders_1 (by decide) (fun c1 => absurd c1 (by decide)) (fun _ => ?_)
  refine lv_iload_n hx hb dX11_orders_4 rfl (lv_at hl 1 rfl) ?_
  refine lv_iconst (v := 1) hx hb dX11_orders_5 (by decide) ?_
  refine lv_icmp_le (tgt := 11) hx hb dX11_orders_6 (by decide) (fun _ => ?_) (fun c1 => absurd c1 (by decide))
  refine lv_aload_n hx hb dX11_orders_11 rfl (lv_at hl 0 rfl) ?_
  refine f_11_3 F w (a := 0) rfl tb_73 dX11_orders_12 ?_
  refine f_0_2 F w (a := 22) rfl tb_216 dX11_orders_15 ?_
  refine r_val (v := 0) (h0) ?_
  refine lv_bipush (v := 6) hx hb dX11_orders_18 (by decide) ?_
  refine lv_icmp_le (tgt := 26) hx hb dX11_orders_20 (by decide) (fun _ => ?_) (fun c1 => absurd c1 (by decide))
  refine lv_aload_n hx hb dX11_orders_26 rfl (lv_at hl 0 rfl) ?_
  refine f_11_6 F w (a := 0) rfl tb_102 dX11_orders_27 ?_
  refine f_3_0 F w (a := 109) rfl tb_211 dX11_orders_30 ?_
  refine r_val (v := 0) (h1) ?_
  refine lv_if_ne (tgt := 61) hx hb dX11_orders_33 (by decide) (fun c1 => absurd c1 (by decide)) (fun _ => ?_)
  refine lv_aload_n hx hb dX11_orders_36 rfl (lv_at hl 0 rfl) ?_
  refine f_11_6 F w (a := 0) rfl tb_102 dX11_orders_37 ?_
  refine lv_aload_n hx hb dX11_orders_40 rfl (lv_at hl 0 rfl) ?_
  refine f_11_3 F w (a := 0) rfl tb_73 dX11_orders_41 ?_
  refine lv_aload_n hx hb dX11_orders_44 rfl (lv_at hl 0 rfl) ?_
  refine f_11_3 F w (a := 0) rfl tb_73 dX11_orders_45 ?_
  refine lv_aload_n hx hb dX11_orders_48 rfl (lv_at hl 0 rfl) ?_
  refine f_11_3 F w (a := 0) rfl tb_73 dX11_orders_49 ?_
  refine f_0_2 F w (a := 22) rfl tb_216 dX11_orders_52 ?_
  refine r_val (v := 0) (h0) ?_
  refine x_Vr F w (As := [.int 0]) (rest := [.ref (B + 22), .ref (B + 109)]) (a := 22) (by decide) (sh_0 rfl _ _) rfl (c_X0_stageOf_207 (h0) (h2)) gv_X11_196 hv_X0_stageOf ⟨Nat.le_of_ble_eq_true rfl, Nat.le_of_ble_eq_true rfl⟩ hl.1 rfl (Nat.le_of_ble_eq_true rfl) ⟨Nat.zero_le _, Nat.zero_le _⟩ dX11_orders_55 (fun H locs w => ?_)
  refine x_Vv F w (As := [.ref (B + 22), .ref (B + 44)]) (rest := []) (a := 109) (by decide) (sh_3 rfl _ _) rfl (c_X3_reckon_353 (h0) (h3) (h4) (h5) (h6) (h7) (h8) (h9) (h10) (fun k hk => (h11 k hk)) (fun k hk => (h12 k hk)) (fun k hk => (h13 k hk)) (fun k hk => (h14 k hk)) (h15) (h16) h17 h18 (h1)) gv_X11_275 hv_X3_reckon ⟨Nat.le_of_ble_eq_true rfl, Nat.le_of_ble_eq_true rfl⟩ hl.1 rfl (Nat.le_of_ble_eq_true rfl) ⟨Nat.zero_le _, Nat.zero_le _⟩ dX11_orders_58 (fun H locs w => ?_)
  refine lv_iload_n hx hb dX11_orders_61 rfl (lv_at hl 1 rfl) ?_
  refine lv_if_ne (tgt := 75) hx hb dX11_orders_62 (by decide) (fun _ => ?_) (fun c1 => absurd c1 (by decide))
  refine lv_aload_n hx hb dX11_orders_75 rfl (lv_at hl 0 rfl) ?_
  refine f_11_6 F w (a := 0) rfl tb_102 dX11_orders_76 ?_
  refine f_3_2 F w (a := 109) rfl tb_547 dX11_orders_79 ?_
  refine r_val (v := 1) ((st_ne (by decide)).trans st_at) ?_
  exact e_i F w hr hlocks ⟨rfl, rfl⟩ dX11_orders_82
set_option maxRecDepth 4000 in
theorem c_X12_in_361 {l : Launch} {D : va_G} {B : Nat} {cy : Nat → ClassId} {M : Mem} : Ci l D B cy yX12_in cX12_in 3 (some .boolean) 0 0 [.int 1, .int 0, .int 1] M (fun r M1 => r = 1 ∧ M1 = M) := by
  refine s_any (by decide) (Nat.le_of_ble_eq_true rfl) ?_
  intro p e s m below meth c ls F hr hlocks w hl
  have F : CallFix p m c cX12_in 3 s _ TB RX12 := F
  have hx := F.1
  have hb := F.2.1
  have hl : lv_has ls 3 [(0, .int 1), (1, .int 0), (2, .int 1)] := hl
  refine lv_iload_n hx hb dX12_in_0 rfl (lv_at hl 0 rfl) ?_
  refine lv_iload_n hx hb dX12_in_1 rfl (lv_at hl 1 rfl) ?_
  refine lv_icmp_lt (tgt := 14) hx hb dX12_in_2 (by decide) (fun c1 => absurd c1 (by decide)) (fun _ => ?_)
  refine lv_iload_n hx hb dX12_in_5 rfl (lv_at hl 0 rfl) ?_
  refine lv_iload_n hx hb dX12_in_6 rfl (lv_at hl 2 rfl) ?_
  refine lv_icmp_gt (tgt := 14) hx hb dX12_in_7 (by decide) (fun c1 => absurd c1 (by decide)) (fun _ => ?_)
  refine lv_iconst (v := 1) hx hb dX12_in_10 (by decide) ?_
  refine lv_goto (tgt := 15) hx hb dX12_in_11 (by decide) ?_
  exact e_z F w hr hlocks (by decide) ⟨rfl, rfl⟩ dX12_in_15
theorem dX12_orders_102 : decode cX12_orders 102 = .ok (.iload_n 3, 1) := by decide +kernel
set_option maxRecDepth 4000 in
theorem c_X12_orders_362 {l : Launch} {D : va_G} {B : Nat} {cy : Nat → ClassId} {M : Mem} (h0 : M.1 146 5 = 0) (h1 : M.1 147 0 = 0) (h2 : M.1 148 0 = 0) (h3 : M.1 147 1 = 0) (h4 : M.1 148 1 = 0) (h5 : M.1 147 2 = 0) (h6 : M.1 148 2 = 0) (h7 : M.1 147 3 = 0) (h8 : M.1 148 3 = 0) (h9 : M.1 147 4 = 0) (h10 : M.1 148 4 = 0) (h11 : M.1 147 5 = 0) (h12 : M.1 148 5 = 0) (h13 : M.1 147 6 = 0) (h14 : M.1 148 6 = 0) (h15 : M.1 147 7 = 0) (h16 : M.1 148 7 = 0) (h17 : M.1 147 8 = 0) (h18 : M.1 148 8 = 0) (h19 : M.1 147 9 = 0) (h20 : M.1 148 9 = 0) (h21 : M.1 147 10 = 0) (h22 : M.1 148 10 = 0) (h23 : M.1 147 11 = 0) (h24 : M.1 148 11 = 0) (h25 : M.1 147 12 = 0) (h26 : M.1 148 12 = 0) (h27 : M.1 147 13 = 0) (h28 : M.1 148 13 = 0) (h29 : M.1 147 14 = 0) (h30 : M.1 148 14 = 0) (h31 : M.1 147 15 = 0) (h32 : M.1 148 15 = 0) (h33 : M.1 147 16 = 0) (h34 : M.1 148 16 = 0) (h35 : M.1 147 17 = 0) (h36 : M.1 148 17 = 0) (h37 : M.1 147 18 = 0) (h38 : M.1 148 18 = 0) (h39 : M.1 147 19 = 0) (h40 : M.1 148 19 = 0) (h41 : M.1 147 20 = 0) (h42 : M.1 148 20 = 0) (h43 : M.1 147 21 = 0) (h44 : M.1 148 21 = 0) (h45 : M.1 147 22 = 0) (h46 : M.1 148 22 = 0) (h47 : M.1 147 23 = 0) (h48 : M.1 148 23 = 0) (h49 : M.1 147 24 = 0) (h50 : M.1 148 24 = 0) (h51 : M.1 147 25 = 0) (h52 : M.1 148 25 = 0) (h53 : M.1 147 26 = 0) (h54 : M.1 148 26 = 0) (h55 : M.1 147 27 = 0) (h56 : M.1 148 27 = 0) (h57 : M.1 157 0 = 0) (h58 : M.1 157 1 = 0) (h59 : M.1 157 2 = 0) (h60 : M.1 157 3 = 0) (h61 : M.1 157 4 = 0) (h62 : M.1 157 5 = 0) (h63 : M.1 157 6 = 0) (h64 : M.1 157 7 = 0) (h65 : M.1 157 8 = 0) (h66 : M.1 157 9 = 0) (h67 : M.1 157 10 = 0) (h68 : M.1 157 11 = 0) (h69 : M.1 146 25 = 0) (h70 : M.1 158 0 = 0) (h71 : M.1 158 1 = 0) (h72 : M.1 158 2 = 0) (h73 : M.1 158 3 = 0) (h74 : M.1 158 4 = 0) (h75 : M.1 158 5 = 0) (h76 : M.1 158 6 = 0) (h77 : M.1 158 7 = 0) (h78 : M.1 158 8 = 0) (h79 : M.1 158 9 = 0) (h80 : M.1 158 10 = 0) (h81 : M.1 158 11 = 0) : Ci l D B cy yX12_orders cX12_orders 5 (some .int) 3 66 [.ref (B + 146), .int 1] M (fun r M1 => r = 1 ∧ M1 = (st M 146 25 1)) := by
  refine s_any (by decide) (Nat.le_of_ble_eq_true rfl) ?_
  intro p e s m below meth c ls F hr hlocks w hl
  have F : CallFix p m c cX12_orders 5 s _ TB RX12 := F
  have hx := F.1
  have hb := F.2.1
  have hl : lv_has ls 5 [(0, .ref (B + 146)), (1, .int 1)] := hl
  refine lv_iload_n hx hb dX12_orders_0 rfl (lv_at hl 1 rfl) ?_
  refine lv_iconst (v := 0) hx hb dX12_orders_1 (by decide) ?_
  refine lv_iconst (v := 1) hx hb dX12_orders_2 (by decide) ?_
  refine x_Si F w (As := [.int 1, .int 0, .int 1]) (rest := []) (c_X12_in_361) gs_X12_55 hs_X12_in ⟨Nat.le_of_ble_eq_true rfl, Nat.le_of_ble_eq_true rfl⟩ hl.1 rfl (Nat.le_of_ble_eq_true rfl) ⟨Nat.zero_le _, Nat.zero_le _⟩ dX12_orders_3 (fun H locs w => ?_)
  refine lv_if_ne (tgt := 11) hx hb dX12_orders_6 (by decide) (fun _ => ?_) (fun c1 => absurd c1 (by decide))
  refine lv_aload_n hx hb dX12_orders_11 rfl (lv_at hl 0 rfl) ?_
  refine f_12_5 F w (a := 146) rfl tb_227 dX12_orders_12 ?_
  refine r_val (v := 0) (h0) ?_
  refine lv_bipush (v := 6) hx hb dX12_orders_15 (by decide) ?_
  refine lv_icmp_le (tgt := 23) hx hb dX12_orders_17 (by decide) (fun _ => ?_) (fun c1 => absurd c1 (by decide))
  refine lv_aload_n hx hb dX12_orders_23 rfl (lv_at hl 0 rfl) ?_
  refine x_Vv F w (As := []) (rest := []) (a := 146) (by decide) (sh_12 rfl _ _) rfl (c_X12_laysDue_340 (h0) (h1) (h2) (h3) (h4) (h5) (h6) (h7) (h8) (h9) (h10) (h11) (h12) (h13) (h14) (h15) (h16) (h17) (h18) (h19) (h20) (h21) (h22) (h23) (h24) (h25) (h26) (h27) (h28) (h29) (h30) (h31) (h32) (h33) (h34) (h35) (h36) (h37) (h38) (h39) (h40) (h41) (h42) (h43) (h44) (h45) (h46) (h47) (h48) (h49) (h50) (h51) (h52) (h53) (h54) (h55) (h56) (h57) (h58) (h59) (h60) (h61) (h62) (h63) (h64) (h65) (h66) (h67) (h68)) gv_X12_303 hv_X12_laysDue ⟨Nat.le_of_ble_eq_true rfl, Nat.le_of_ble_eq_true rfl⟩ hl.1 rfl (Nat.le_of_ble_eq_true rfl) ⟨Nat.zero_le _, Nat.zero_le _⟩ dX12_orders_24 (fun H locs w => ?_)
  refine lv_iconst (v := 1) hx hb dX12_orders_27 (by decide) ?_
  refine lv_istore_n (lv' := [(2, .int 1), (0, .ref (B + 146)), (1, .int 1)]) hx hb dX12_orders_28 rfl hl (by decide) rfl (fun ls hl => ?_)
  refine lv_iconst (v := 2) hx hb dX12_orders_29 (by decide) ?_
  refine lv_istore_n (lv' := [(3, .int 2), (2, .int 1), (0, .ref (B + 146)), (1, .int 1)]) hx hb dX12_orders_30 rfl hl (by decide) rfl (fun ls hl => ?_)
  refine lv_iload_n hx hb dX12_orders_31 rfl (lv_at hl 0 rfl) ?_
  refine lv_aload_n hx hb dX12_orders_32 rfl (lv_at hl 2 rfl) ?_
  refine f_12_5 F w (a := 146) rfl tb_227 dX12_orders_33 ?_
  refine r_val (v := 0) (h0) ?_
  refine lv_icmp_gt (tgt := 49) hx hb dX12_orders_36 (by decide) (fun _ => ?_) (fun c1 => absurd c1 (by decide))
  refine lv_iconst (v := 0) hx hb dX12_orders_49 (by decide) ?_
  refine lv_istore_n (lv' := [(3, .int 0), (2, .int 1), (0, .ref (B + 146)), (1, .int 1)]) hx hb dX12_orders_50 rfl hl (by decide) rfl (fun ls hl => ?_)
  refine lv_aload_n hx hb dX12_orders_51 rfl (lv_at hl 2 rfl) ?_
  refine lv_iconst (v := 0) hx hb dX12_orders_52 (by decide) ?_
  refine u_12_25 F w (a := 146) rfl tb_537 dX12_orders_53 (fun H locs w => ?_)
  rw [st_same (h69)] at w
  refine lv_iconst (v := 0) hx hb dX12_orders_56 (by decide) ?_
  refine lv_istore (lv' := [(4, .int 0), (3, .int 0), (2, .int 1), (0, .ref (B + 146)), (1, .int 1)]) hx hb dX12_orders_57 hl (by decide) rfl (fun ls hl => ?_)
  refine lv_iload hx hb dX12_orders_59 (lv_at hl 0 rfl) ?_
  refine lv_iload_n hx hb dX12_orders_61 rfl (lv_at hl 2 rfl) ?_
  refine lv_icmp_ge (tgt := 91) hx hb dX12_orders_62 (by decide) (fun c1 => absurd c1 (by decide)) (fun _ => ?_)
  refine lv_aload_n hx hb dX12_orders_65 rfl (lv_at hl 3 rfl) ?_
  refine lv_iload hx hb dX12_orders_66 (lv_at hl 0 rfl) ?_
  refine x_Vv F w (As := [.int 0]) (rest := []) (a := 146) (by decide) (sh_12 rfl _ _) rfl (c_X12_worksOrder_356 (h1) (h2) (h3) (h4) (h5) (h6) (h7) (h8) (h9) (h10) (h11) (h12) (h13) (h14) (h15) (h16) (h17) (h18) (h19) (h20) (h21) (h22) (h23) (h24) (h25) (h26) (h27) (h28) (h29) (h30) (h31) (h32) (h33) (h34) (h35) (h36) (h37) (h38) (h39) (h40) (h41) (h42) (h43) (h44) (h45) (h46) (h47) (h48) (h49) (h50) (h51) (h52) (h53) (h54) (h55) (h56) (h0)) gv_X12_312 hv_X12_worksOrder ⟨Nat.le_of_ble_eq_true rfl, Nat.le_of_ble_eq_true rfl⟩ hl.1 rfl (Nat.le_of_ble_eq_true rfl) ⟨Nat.zero_le _, Nat.zero_le _⟩ dX12_orders_68 (fun H locs w => ?_)
  refine lv_aload_n hx hb dX12_orders_71 rfl (lv_at hl 3 rfl) ?_
  refine x_Vi F w (As := []) (rest := []) (a := 146) (by decide) (sh_12 rfl _ _) rfl (c_X12_isDue_357 (h52)) gv_X12_306 hv_X12_isDue ⟨Nat.le_of_ble_eq_true rfl, Nat.le_of_ble_eq_true rfl⟩ hl.1 rfl (Nat.le_of_ble_eq_true rfl) ⟨Nat.zero_le _, Nat.zero_le _⟩ dX12_orders_72 (fun H locs w => ?_)
  refine lv_if_eq (tgt := 81) hx hb dX12_orders_75 (by decide) (fun c1 => absurd c1 (by decide)) (fun _ => ?_)
  refine lv_iinc (v := 1) (lv' := [(3, .int 1), (4, .int 0), (2, .int 1), (0, .ref (B + 146)), (1, .int 1)]) hx hb dX12_orders_78 hl (k := 1) rfl (by decide) (by decide) rfl (fun ls hl => ?_)
  refine lv_aload_n hx hb dX12_orders_81 rfl (lv_at hl 3 rfl) ?_
  refine x_Vv F w (As := []) (rest := []) (a := 146) (by decide) (sh_12 rfl _ _) rfl (c_X12_collects_358 (h69) (h52) (h70) (h71) (h72) (h73) (h74) (h75) (h76) (h77) (h78) (h79) (h80) (h81)) gv_X12_315 hv_X12_collects ⟨Nat.le_of_ble_eq_true rfl, Nat.le_of_ble_eq_true rfl⟩ hl.1 rfl (Nat.le_of_ble_eq_true rfl) ⟨Nat.zero_le _, Nat.zero_le _⟩ dX12_orders_82 (fun H locs w => ?_)
  refine lv_iinc (v := 1) (lv' := [(4, .int 1), (3, .int 1), (2, .int 1), (0, .ref (B + 146)), (1, .int 1)]) hx hb dX12_orders_85 hl (k := 1) rfl (by decide) (by decide) rfl (fun ls hl => ?_)
  refine lv_goto (tgt := 59) hx hb dX12_orders_88 (by decide) ?_
  refine lv_iload hx hb dX12_orders_59 (lv_at hl 0 rfl) ?_
  refine lv_iload_n hx hb dX12_orders_61 rfl (lv_at hl 2 rfl) ?_
  refine lv_icmp_ge (tgt := 91) hx hb dX12_orders_62 (by decide) (fun _ => ?_) (fun c1 => absurd c1 (by decide))
  refine lv_iload_n hx hb dX12_orders_91 rfl (lv_at hl 4 rfl) ?_
  refine lv_if_ne (tgt := 102) hx hb dX12_orders_92 (by decide) (fun _ => ?_) (fun c1 => absurd c1 (by decide))
  refine lv_iload_n hx hb dX12_orders_102 rfl (lv_at hl 1 rfl) ?_
  exact e_i F w hr hlocks ⟨rfl, rfl⟩ dX12_orders_103
set_option maxRecDepth 8000 in
theorem la_25_88 {p : Program} {l : Launch} {e : Env} {s : State} {m : MethodId} {below : List Frame} {meth : Method} {c : Code} {D : va_G} {B b : Nat} {cy : Nat → ClassId} {H : Heap} {locs : List Loc} {ls : Array Slot} {xs : Nat → Int32} {Q : State → Prop} (F : CallFix p m c code 4 s #[Value.ref b] TB RL) (hX : va_X b 6 xs s s.heap) (hbl : b < s.heap.size) (hbA : ¬ B ≤ b) (w : Wd D B cy s s.heap M0 H locs) (hl : lv_has ls 4 [(3, .int 0), (2, .ref (B + 146)), (1, .ref (B + 0)), (0, .ref b)]) (x1 : xs 1 = 1) (kk : ∀ (M1 : Mem) (H1 : Heap) (locs1 : List Loc), Wd D B cy s s.heap M1 H1 locs1 → W p l e room_1 s m #[Value.ref b] below meth c H1 locs1 159 13107 Q (F0 m 1065 ls [])) : W p l e room_1 s m #[Value.ref b] below meth c H locs 159 13107 Q (F0 m 973 ls []) := by
  have hx := F.1
  have hb := F.2.1
  refine lv_aload_n hx hb dL_law_973 rfl (lv_at hl 2 rfl) ?_
  refine lv_aload_n hx hb dL_law_974 rfl (lv_at hl 3 rfl) ?_
  refine lv_iload_n hx hb dL_law_975 rfl (lv_at hl 0 rfl) ?_
  refine lv_iconst (v := 1) hx hb dL_law_976 (by decide) ?_
  refine lv_iadd hx hb dL_law_977 ?_
  refine r_val (v := 1) (by decide) ?_
  refine va_sld hx hb hX hbl hbA w.2.2.1 (vpi (by decide) (by decide)) dL_law_978 ?_
  refine r_val (v := 1) ((congrArg xs (show (1 : Int32).toNatClampNeg = 1 by decide)).trans x1) ?_
  refine x_Vi F w (As := [.int 1]) (rest := []) (a := 0) (by decide) (sh_11 rfl _ _) rfl (c_X11_orders_360 (rfl) (rfl) (rfl) (rfl) (rfl) (rfl) (rfl) (rfl) (rfl) (rfl) (rfl) (fun k hk => ((fun k hk => rfl) k hk)) (fun k hk => ((fun k hk => rfl) k hk)) (fun k hk => ((fun k hk => rfl) k hk)) (fun k hk => ((fun k hk => rfl) k hk)) (rfl) (rfl) rfl rfl) gv_L_123 hv_X11_orders ⟨Nat.le_of_ble_eq_true rfl, Nat.le_of_ble_eq_true rfl⟩ hl.1 rfl (Nat.le_of_ble_eq_true rfl) ⟨Nat.le_of_ble_eq_true rfl, Nat.le_of_ble_eq_true rfl⟩ dL_law_979 (fun H locs w => ?_)
  refine lv_aload_n hx hb dL_law_982 rfl (lv_at hl 1 rfl) ?_
  refine lv_aload_n hx hb dL_law_983 rfl (lv_at hl 3 rfl) ?_
  refine lv_iload_n hx hb dL_law_984 rfl (lv_at hl 0 rfl) ?_
  refine lv_iconst (v := 1) hx hb dL_law_985 (by decide) ?_
  refine lv_iadd hx hb dL_law_986 ?_
  refine r_val (v := 1) (by decide) ?_
  refine va_sld hx hb hX hbl hbA w.2.2.1 (vpi (by decide) (by decide)) dL_law_987 ?_
  refine r_val (v := 1) ((congrArg xs (show (1 : Int32).toNatClampNeg = 1 by decide)).trans x1) ?_
  refine x_Vi F w (As := [.int 1]) (rest := [.int 1]) (a := 146) (by decide) (sh_12 rfl _ _) rfl (c_X12_orders_362 ((st_ne (by decide)).trans ((st_ne (by decide)).trans ((st_ne (by decide)).trans rfl))) ((st_ne (by decide)).trans ((st_ne (by decide)).trans ((st_ne (by decide)).trans rfl))) ((st_ne (by decide)).trans ((st_ne (by decide)).trans ((st_ne (by decide)).trans rfl))) ((st_ne (by decide)).trans ((st_ne (by decide)).trans ((st_ne (by decide)).trans rfl))) ((st_ne (by decide)).trans ((st_ne (by decide)).trans ((st_ne (by decide)).trans rfl))) ((st_ne (by decide)).trans ((st_ne (by decide)).trans ((st_ne (by decide)).trans rfl))) ((st_ne (by decide)).trans ((st_ne (by decide)).trans ((st_ne (by decide)).trans rfl))) ((st_ne (by decide)).trans ((st_ne (by decide)).trans ((st_ne (by decide)).trans rfl))) ((st_ne (by decide)).trans ((st_ne (by decide)).trans ((st_ne (by decide)).trans rfl))) ((st_ne (by decide)).trans ((st_ne (by decide)).trans ((st_ne (by decide)).trans rfl))) ((st_ne (by decide)).trans ((st_ne (by decide)).trans ((st_ne (by decide)).trans rfl))) ((st_ne (by decide)).trans ((st_ne (by decide)).trans ((st_ne (by decide)).trans rfl))) ((st_ne (by decide)).trans ((st_ne (by decide)).trans ((st_ne (by decide)).trans rfl))) ((st_ne (by decide)).trans ((st_ne (by decide)).trans ((st_ne (by decide)).trans rfl))) ((st_ne (by decide)).trans ((st_ne (by decide)).trans ((st_ne (by decide)).trans rfl))) ((st_ne (by decide)).trans ((st_ne (by decide)).trans ((st_ne (by decide)).trans rfl))) ((st_ne (by decide)).trans ((st_ne (by decide)).trans ((st_ne (by decide)).trans rfl))) ((st_ne (by decide)).trans ((st_ne (by decide)).trans ((st_ne (by decide)).trans rfl))) ((st_ne (by decide)).trans ((st_ne (by decide)).trans ((st_ne (by decide)).trans rfl))) ((st_ne (by decide)).trans ((st_ne (by decide)).trans ((st_ne (by decide)).trans rfl))) ((st_ne (by decide)).trans ((st_ne (by decide)).trans ((st_ne (by decide)).trans rfl))) ((st_ne (by decide)).trans ((st_ne (by decide)).trans ((st_ne (by decide)).trans rfl))) ((st_ne (by decide)).trans ((st_ne (by decide)).trans ((st_ne (by decide)).trans rfl))) ((st_ne (by decide)).trans ((st_ne (by decide)).trans ((st_ne (by decide)).trans rfl))) ((st_ne (by decide)).trans ((st_ne (by decide)).trans ((st_ne (by decide)).trans rfl))) ((st_ne (by decide)).trans ((st_ne (by decide)).trans ((st_ne (by decide)).trans rfl))) ((st_ne (by decide)).trans ((st_ne (by decide)).trans ((st_ne (by decide)).trans rfl))) ((st_ne (by decide)).trans ((st_ne (by decide)).trans ((st_ne (by decide)).trans rfl))) ((st_ne (by decide)).trans ((st_ne (by decide)).trans ((st_ne (by decide)).trans rfl))) ((st_ne (by decide)).trans ((st_ne (by decide)).trans ((st_ne (by decide)).trans rfl))) ((st_ne (by decide)).trans ((st_ne (by decide)).trans ((st_ne (by decide)).trans rfl))) ((st_ne (by decide)).trans ((st_ne (by decide)).trans ((st_ne (by decide)).trans rfl))) ((st_ne (by decide)).trans ((st_ne (by decide)).trans ((st_ne (by decide)).trans rfl))) ((st_ne (by decide)).trans ((st_ne (by decide)).trans ((st_ne (by decide)).trans rfl))) ((st_ne (by decide)).trans ((st_ne (by decide)).trans ((st_ne (by decide)).trans rfl))) ((st_ne (by decide)).trans ((st_ne (by decide)).trans ((st_ne (by decide)).trans rfl))) ((st_ne (by decide)).trans ((st_ne (by decide)).trans ((st_ne (by decide)).trans rfl))) ((st_ne (by decide)).trans ((st_ne (by decide)).trans ((st_ne (by decide)).trans rfl))) ((st_ne (by decide)).trans ((st_ne (by decide)).trans ((st_ne (by decide)).trans rfl))) ((st_ne (by decide)).trans ((st_ne (by decide)).trans ((st_ne (by decide)).trans rfl))) ((st_ne (by decide)).trans ((st_ne (by decide)).trans ((st_ne (by decide)).trans rfl))) ((st_ne (by decide)).trans ((st_ne (by decide)).trans ((st_ne (by decide)).trans rfl))) ((st_ne (by decide)).trans ((st_ne (by decide)).trans ((st_ne (by decide)).trans rfl))) ((st_ne (by decide)).trans ((st_ne (by decide)).trans ((st_ne (by decide)).trans rfl))) ((st_ne (by decide)).trans ((st_ne (by decide)).trans ((st_ne (by decide)).trans rfl))) ((st_ne (by decide)).trans ((st_ne (by decide)).trans ((st_ne (by decide)).trans rfl))) ((st_ne (by decide)).trans ((st_ne (by decide)).trans ((st_ne (by decide)).trans rfl))) ((st_ne (by decide)).trans ((st_ne (by decide)).trans ((st_ne (by decide)).trans rfl))) ((st_ne (by decide)).trans ((st_ne (by decide)).trans ((st_ne (by decide)).trans rfl))) ((st_ne (by decide)).trans ((st_ne (by decide)).trans ((st_ne (by decide)).trans rfl))) ((st_ne (by decide)).trans ((st_ne (by decide)).trans ((st_ne (by decide)).trans rfl))) ((st_ne (by decide)).trans ((st_ne (by decide)).trans ((st_ne (by decide)).trans rfl))) ((st_ne (by decide)).trans ((st_ne (by decide)).trans ((st_ne (by decide)).trans rfl))) ((st_ne (by decide)).trans ((st_ne (by decide)).trans ((st_ne (by decide)).trans rfl))) ((st_ne (by decide)).trans ((st_ne (by decide)).trans ((st_ne (by decide)).trans rfl))) ((st_ne (by decide)).trans ((st_ne (by decide)).trans ((st_ne (by decide)).trans rfl))) ((st_ne (by decide)).trans ((st_ne (by decide)).trans ((st_ne (by decide)).trans rfl))) ((st_ne (by decide)).trans ((st_ne (by decide)).trans ((st_ne (by decide)).trans rfl))) ((st_ne (by decide)).trans ((st_ne (by decide)).trans ((st_ne (by decide)).trans rfl))) ((st_ne (by decide)).trans ((st_ne (by decide)).trans ((st_ne (by decide)).trans rfl))) ((st_ne (by decide)).trans ((st_ne (by decide)).trans ((st_ne (by decide)).trans rfl))) ((st_ne (by decide)).trans ((st_ne (by decide)).trans ((st_ne (by decide)).trans rfl))) ((st_ne (by decide)).trans ((st_ne (by decide)).trans ((st_ne (by decide)).trans rfl))) ((st_ne (by decide)).trans ((st_ne (by decide)).trans ((st_ne (by decide)).trans rfl))) ((st_ne (by decide)).trans ((st_ne (by decide)).trans ((st_ne (by decide)).trans rfl))) ((st_ne (by decide)).trans ((st_ne (by decide)).trans ((st_ne (by decide)).trans rfl))) ((st_ne (by decide)).trans ((st_ne (by decide)).trans ((st_ne (by decide)).trans rfl))) ((st_ne (by decide)).trans ((st_ne (by decide)).trans ((st_ne (by decide)).trans rfl))) ((st_ne (by decide)).trans ((st_ne (by decide)).trans ((st_ne (by decide)).trans rfl))) ((st_ne (by decide)).trans ((st_ne (by decide)).trans ((st_ne (by decide)).trans rfl))) ((st_ne (by decide)).trans ((st_ne (by decide)).trans ((st_ne (by decide)).trans rfl))) ((st_ne (by decide)).trans ((st_ne (by decide)).trans ((st_ne (by decide)).trans rfl))) ((st_ne (by decide)).trans ((st_ne (by decide)).trans ((st_ne (by decide)).trans rfl))) ((st_ne (by decide)).trans ((st_ne (by decide)).trans ((st_ne (by decide)).trans rfl))) ((st_ne (by decide)).trans ((st_ne (by decide)).trans ((st_ne (by decide)).trans rfl))) ((st_ne (by decide)).trans ((st_ne (by decide)).trans ((st_ne (by decide)).trans rfl))) ((st_ne (by decide)).trans ((st_ne (by decide)).trans ((st_ne (by decide)).trans rfl))) ((st_ne (by decide)).trans ((st_ne (by decide)).trans ((st_ne (by decide)).trans rfl))) ((st_ne (by decide)).trans ((st_ne (by decide)).trans ((st_ne (by decide)).trans rfl))) ((st_ne (by decide)).trans ((st_ne (by decide)).trans ((st_ne (by decide)).trans rfl))) ((st_ne (by decide)).trans ((st_ne (by decide)).trans ((st_ne (by decide)).trans rfl))) ((st_ne (by decide)).trans ((st_ne (by decide)).trans ((st_ne (by decide)).trans rfl)))) gv_L_126 hv_X12_orders ⟨Nat.le_of_ble_eq_true rfl, Nat.le_of_ble_eq_true rfl⟩ hl.1 rfl (Nat.le_of_ble_eq_true rfl) ⟨Nat.le_of_ble_eq_true rfl, Nat.le_of_ble_eq_true rfl⟩ dL_law_988 (fun H locs w => ?_)
  refine lv_icmp_eq (tgt := 1065) hx hb dL_law_991 (by decide) (fun _ => ?_) (fun c1 => absurd c1 (by decide))
  exact kk _ _ _ w
set_option maxRecDepth 4000 in
theorem c_X11_orders_363 {l : Launch} {D : va_G} {B : Nat} {cy : Nat → ClassId} {M : Mem} {p1 : Int32} (h0 : ¬ p1 < 0) (h1 : ¬ p1 ≤ 1) : Ci l D B cy yX11_orders cX11_orders 2 (some .int) 0 0 [.ref (B + 0), .int p1] M (fun r M1 => r = (-1) ∧ M1 = M) := by
  refine s_any (by decide) (Nat.le_of_ble_eq_true rfl) ?_
  intro p e s m below meth c ls F hr hlocks w hl
  have F : CallFix p m c cX11_orders 2 s _ TB RX11 := F
  have hx := F.1
  have hb := F.2.1
  have hl : lv_has ls 2 [(0, .ref (B + 0)), (1, .int p1)] := hl
  refine lv_iload_n hx hb dX11_orders_0 rfl (lv_at hl 1 rfl) ?_
  refine lv_if_lt (tgt := 9) hx hb dX11_orders_1 (by decide) (fun c1 => absurd c1 h0) (fun _ => ?_)
  refine lv_iload_n hx hb dX11_orders_4 rfl (lv_at hl 1 rfl) ?_
  refine lv_iconst (v := 1) hx hb dX11_orders_5 (by decide) ?_
  refine lv_icmp_le (tgt := 11) hx hb dX11_orders_6 (by decide) (fun c1 => absurd c1 h1) (fun _ => ?_)
  refine lv_iconst (v := (-1)) hx hb dX11_orders_9 (by decide) ?_
  exact e_i F w hr hlocks ⟨rfl, rfl⟩ dX11_orders_10
set_option maxRecDepth 4000 in
theorem c_X12_in_364 {l : Launch} {D : va_G} {B : Nat} {cy : Nat → ClassId} {M : Mem} {p0 : Int32} (h0 : ¬ p0 < 0) (h1 : 1 < p0) : Ci l D B cy yX12_in cX12_in 3 (some .boolean) 0 0 [.int p0, .int 0, .int 1] M (fun r M1 => r = 0 ∧ M1 = M) := by
  refine s_any (by decide) (Nat.le_of_ble_eq_true rfl) ?_
  intro p e s m below meth c ls F hr hlocks w hl
  have F : CallFix p m c cX12_in 3 s _ TB RX12 := F
  have hx := F.1
  have hb := F.2.1
  have hl : lv_has ls 3 [(0, .int p0), (1, .int 0), (2, .int 1)] := hl
  refine lv_iload_n hx hb dX12_in_0 rfl (lv_at hl 0 rfl) ?_
  refine lv_iload_n hx hb dX12_in_1 rfl (lv_at hl 1 rfl) ?_
  refine lv_icmp_lt (tgt := 14) hx hb dX12_in_2 (by decide) (fun c1 => absurd c1 h0) (fun _ => ?_)
  refine lv_iload_n hx hb dX12_in_5 rfl (lv_at hl 0 rfl) ?_
  refine lv_iload_n hx hb dX12_in_6 rfl (lv_at hl 2 rfl) ?_
  refine lv_icmp_gt (tgt := 14) hx hb dX12_in_7 (by decide) (fun _ => ?_) (fun c1 => absurd h1 c1)
  refine lv_iconst (v := 0) hx hb dX12_in_14 (by decide) ?_
  exact e_z F w hr hlocks (by decide) ⟨rfl, rfl⟩ dX12_in_15
set_option maxRecDepth 4000 in
theorem c_X12_orders_365 {l : Launch} {D : va_G} {B : Nat} {cy : Nat → ClassId} {M : Mem} {p1 : Int32} (h0 : ¬ p1 < 0) (h1 : 1 < p1) : Ci l D B cy yX12_orders cX12_orders 5 (some .int) 1 22 [.ref (B + 146), .int p1] M (fun r M1 => r = (-1) ∧ M1 = M) := by
  refine s_any (by decide) (Nat.le_of_ble_eq_true rfl) ?_
  intro p e s m below meth c ls F hr hlocks w hl
  have F : CallFix p m c cX12_orders 5 s _ TB RX12 := F
  have hx := F.1
  have hb := F.2.1
  have hl : lv_has ls 5 [(0, .ref (B + 146)), (1, .int p1)] := hl
  refine lv_iload_n hx hb dX12_orders_0 rfl (lv_at hl 1 rfl) ?_
  refine lv_iconst (v := 0) hx hb dX12_orders_1 (by decide) ?_
  refine lv_iconst (v := 1) hx hb dX12_orders_2 (by decide) ?_
  refine x_Si F w (As := [.int p1, .int 0, .int 1]) (rest := []) (c_X12_in_364 h0 h1) gs_X12_55 hs_X12_in ⟨Nat.le_of_ble_eq_true rfl, Nat.le_of_ble_eq_true rfl⟩ hl.1 rfl (Nat.le_of_ble_eq_true rfl) ⟨Nat.zero_le _, Nat.zero_le _⟩ dX12_orders_3 (fun H locs w => ?_)
  refine lv_if_ne (tgt := 11) hx hb dX12_orders_6 (by decide) (fun c1 => absurd c1 (by decide)) (fun _ => ?_)
  refine lv_iconst (v := (-1)) hx hb dX12_orders_9 (by decide) ?_
  exact e_i F w hr hlocks ⟨rfl, rfl⟩ dX12_orders_10
set_option maxRecDepth 8000 in
theorem la_25_89 {p : Program} {l : Launch} {e : Env} {s : State} {m : MethodId} {below : List Frame} {meth : Method} {c : Code} {D : va_G} {B b : Nat} {cy : Nat → ClassId} {H : Heap} {locs : List Loc} {ls : Array Slot} {xs : Nat → Int32} {Q : State → Prop} (F : CallFix p m c code 4 s #[Value.ref b] TB RL) (hX : va_X b 6 xs s s.heap) (hbl : b < s.heap.size) (hbA : ¬ B ≤ b) (w : Wd D B cy s s.heap M0 H locs) (hl : lv_has ls 4 [(3, .int 0), (2, .ref (B + 146)), (1, .ref (B + 0)), (0, .ref b)]) (h0 : ¬ (xs 1) < 0) (h1 : ¬ (xs 1) ≤ 1) (h2 : 1 < (xs 1)) (kk : ∀ (M1 : Mem) (H1 : Heap) (locs1 : List Loc), Wd D B cy s s.heap M1 H1 locs1 → W p l e room_1 s m #[Value.ref b] below meth c H1 locs1 159 13107 Q (F0 m 1065 ls [])) : W p l e room_1 s m #[Value.ref b] below meth c H locs 159 13107 Q (F0 m 973 ls []) := by
  have hx := F.1
  have hb := F.2.1
  refine lv_aload_n hx hb dL_law_973 rfl (lv_at hl 2 rfl) ?_
  refine lv_aload_n hx hb dL_law_974 rfl (lv_at hl 3 rfl) ?_
  refine lv_iload_n hx hb dL_law_975 rfl (lv_at hl 0 rfl) ?_
  refine lv_iconst (v := 1) hx hb dL_law_976 (by decide) ?_
  refine lv_iadd hx hb dL_law_977 ?_
  refine r_val (v := 1) (by decide) ?_
  refine va_sld hx hb hX hbl hbA w.2.2.1 (vpi (by decide) (by decide)) dL_law_978 ?_
  refine r_val (v := xs 1) (congrArg xs (show (1 : Int32).toNatClampNeg = 1 by decide)) ?_
  refine x_Vi F w (As := [.int (xs 1)]) (rest := []) (a := 0) (by decide) (sh_11 rfl _ _) rfl (c_X11_orders_363 h0 h1) gv_L_123 hv_X11_orders ⟨Nat.le_of_ble_eq_true rfl, Nat.le_of_ble_eq_true rfl⟩ hl.1 rfl (Nat.le_of_ble_eq_true rfl) ⟨Nat.le_of_ble_eq_true rfl, Nat.le_of_ble_eq_true rfl⟩ dL_law_979 (fun H locs w => ?_)
  refine lv_aload_n hx hb dL_law_982 rfl (lv_at hl 1 rfl) ?_
  refine lv_aload_n hx hb dL_law_983 rfl (lv_at hl 3 rfl) ?_
  refine lv_iload_n hx hb dL_law_984 rfl (lv_at hl 0 rfl) ?_
  refine lv_iconst (v := 1) hx hb dL_law_985 (by decide) ?_
  refine lv_iadd hx hb dL_law_986 ?_
  refine r_val (v := 1) (by decide) ?_
  refine va_sld hx hb hX hbl hbA w.2.2.1 (vpi (by decide) (by decide)) dL_law_987 ?_
  refine r_val (v := xs 1) (congrArg xs (show (1 : Int32).toNatClampNeg = 1 by decide)) ?_
  refine x_Vi F w (As := [.int (xs 1)]) (rest := [.int (-1)]) (a := 146) (by decide) (sh_12 rfl _ _) rfl (c_X12_orders_365 h0 h2) gv_L_126 hv_X12_orders ⟨Nat.le_of_ble_eq_true rfl, Nat.le_of_ble_eq_true rfl⟩ hl.1 rfl (Nat.le_of_ble_eq_true rfl) ⟨Nat.le_of_ble_eq_true rfl, Nat.le_of_ble_eq_true rfl⟩ dL_law_988 (fun H locs w => ?_)
  refine lv_icmp_eq (tgt := 1065) hx hb dL_law_991 (by decide) (fun _ => ?_) (fun c1 => absurd c1 (by decide))
  exact kk _ _ _ w
set_option maxRecDepth 8000 in
theorem lc_25 {p : Program} {l : Launch} {e : Env} {s : State} {m : MethodId} {below : List Frame} {meth : Method} {c : Code} {D : va_G} {B b : Nat} {cy : Nat → ClassId} {H : Heap} {locs : List Loc} {ls : Array Slot} {xs : Nat → Int32} {Q : State → Prop} (F : CallFix p m c code 4 s #[Value.ref b] TB RL) (hX : va_X b 6 xs s s.heap) (hbl : b < s.heap.size) (hbA : ¬ B ≤ b) (w : Wd D B cy s s.heap M0 H locs) (hl : lv_has ls 4 [(3, .int 0), (2, .ref (B + 146)), (1, .ref (B + 0)), (0, .ref b)]) (kk : ∀ (M1 : Mem) (H1 : Heap) (locs1 : List Loc), Wd D B cy s s.heap M1 H1 locs1 → W p l e room_1 s m #[Value.ref b] below meth c H1 locs1 159 13107 Q (F0 m 1065 ls [])) : W p l e room_1 s m #[Value.ref b] below meth c H locs 159 13107 Q (F0 m 973 ls []) := by
  rcases (show (xs 1).toInt < 0 ∨ (xs 1).toInt = 0 ∨ (xs 1).toInt = 1 ∨ 1 < (xs 1).toInt by omega) with h1 | h1 | h1 | h1
  · skip
    exact la_25_86 F hX hbl hbA w hl (by rw [Int32.lt_iff_toInt_lt, show (0 : Int32).toInt = 0 from by decide]; omega) kk
  · have x1 : xs 1 = 0 := Int32.toInt_inj.mp (h1.trans (by decide))
    exact la_25_87 F hX hbl hbA w hl x1 kk
  · have x1 : xs 1 = 1 := Int32.toInt_inj.mp (h1.trans (by decide))
    exact la_25_88 F hX hbl hbA w hl x1 kk
  · skip
    exact la_25_89 F hX hbl hbA w hl (by rw [Int32.lt_iff_toInt_lt, show (0 : Int32).toInt = 0 from by decide]; omega) (by rw [Int32.le_iff_toInt_le, show (1 : Int32).toInt = 1 from by decide]; omega) (by rw [Int32.lt_iff_toInt_lt, show (1 : Int32).toInt = 1 from by decide]; omega) kk
theorem dL_law_996 : decode cL_law 996 = .ok (.aload_n 1, 1) := by decide +kernel
theorem dL_law_997 : decode cL_law 997 = .ok (.aload_n 0, 1) := by decide +kernel
theorem dL_law_998 : decode cL_law 998 = .ok (.iload_n 3, 1) := by decide +kernel
theorem dL_law_999 : decode cL_law 999 = .ok (.iconst 1, 1) := by decide +kernel
theorem dL_law_1000 : decode cL_law 1000 = .ok (.iadd, 1) := by decide +kernel
theorem dL_law_1001 : decode cL_law 1001 = .ok (.iaload, 1) := by decide +kernel
theorem dL_law_1002 : decode cL_law 1002 = .ok (.invokevirtual 127, 3) := by decide +kernel
theorem dX11_sources_0 : decode cX11_sources 0 = .ok (.iload_n 1, 1) := by decide +kernel
theorem dX11_sources_1 : decode cX11_sources 1 = .ok (.ifCond .lt 9, 3) := by decide +kernel
theorem dX11_sources_10 : decode cX11_sources 10 = .ok (.iconst (-1), 1) := by decide +kernel
theorem dX11_sources_11 : decode cX11_sources 11 = .ok (.ireturn, 1) := by decide +kernel
set_option maxRecDepth 4000 in
theorem c_X11_sources_366 {l : Launch} {D : va_G} {B : Nat} {cy : Nat → ClassId} {M : Mem} {p1 : Int32} (h0 : p1 < 0) : Ci l D B cy yX11_sources cX11_sources 2 (some .int) 0 0 [.ref (B + 0), .int p1] M (fun r M1 => r = (-1) ∧ M1 = M) := by
  refine s_any (by decide) (Nat.le_of_ble_eq_true rfl) ?_
  intro p e s m below meth c ls F hr hlocks w hl
  have F : CallFix p m c cX11_sources 2 s _ TB RX11 := F
  have hx := F.1
  have hb := F.2.1
  have hl : lv_has ls 2 [(0, .ref (B + 0)), (1, .int p1)] := hl
  refine lv_iload_n hx hb dX11_sources_0 rfl (lv_at hl 1 rfl) ?_
  refine lv_if_lt (tgt := 10) hx hb dX11_sources_1 (by decide) (fun _ => ?_) (fun c1 => absurd h0 c1)
  refine lv_iconst (v := (-1)) hx hb dX11_sources_10 (by decide) ?_
  exact e_i F w hr hlocks ⟨rfl, rfl⟩ dX11_sources_11
theorem tk_X11_sources : Cond.code yX11_sources cX11_sources 2 (some .int) ∈ TB := tbm (tc5 (List.mem_of_getElem? (i := 24) rfl)) rfl
theorem gc_X11_sources : GoodIn TB (cw yX11_sources cX11_sources 2 (some .int)) := goodIn_c2 tk_X11_sources
theorem tb_548 : Cond.methodLink "ToneLinesLaw" 127 yX11_sources ∈ TB := tbm (tc5 (List.mem_of_getElem? (i := 21) rfl)) rfl
theorem tb_549 : Cond.instanceMethod yX11_sources ∈ TB := tbm (tc5 (List.mem_of_getElem? (i := 22) rfl)) rfl
theorem tb_550 : Cond.selects "ToneLines" yX11_sources yX11_sources ∈ TB := tbm (tc5 (List.mem_of_getElem? (i := 23) rfl)) rfl
theorem gv_L_127 : GoodIn TB (wsV RL 127 RX11 yX11_sources (cw yX11_sources cX11_sources 2 (some .int))) := goodIn_4 tb_548 tb_549 tb_550 tb_145 gc_X11_sources
theorem hv_X11_sources : yX11_sources.cls = RX11 ∧ yX11_sources.cls ≠ "java/lang/invoke/MethodHandle" ∧ yX11_sources.cls ≠ "java/lang/invoke/VarHandle" ∧ (parseMethodDescriptor yX11_sources.desc).map (fun d => d.parameters.length) = some 1 := by decide +kernel
theorem dL_law_1005 : decode cL_law 1005 = .ok (.aload_n 2, 1) := by decide +kernel
theorem dL_law_1006 : decode cL_law 1006 = .ok (.aload_n 0, 1) := by decide +kernel
theorem dL_law_1007 : decode cL_law 1007 = .ok (.iload_n 3, 1) := by decide +kernel
theorem dL_law_1008 : decode cL_law 1008 = .ok (.iconst 1, 1) := by decide +kernel
theorem dL_law_1009 : decode cL_law 1009 = .ok (.iadd, 1) := by decide +kernel
theorem dL_law_1010 : decode cL_law 1010 = .ok (.iaload, 1) := by decide +kernel
theorem dL_law_1011 : decode cL_law 1011 = .ok (.invokevirtual 130, 3) := by decide +kernel
theorem dX12_sources_0 : decode cX12_sources 0 = .ok (.iload_n 1, 1) := by decide +kernel
theorem dX12_sources_1 : decode cX12_sources 1 = .ok (.iconst 0, 1) := by decide +kernel
theorem dX12_sources_2 : decode cX12_sources 2 = .ok (.bipush 6, 2) := by decide +kernel
theorem dX12_sources_4 : decode cX12_sources 4 = .ok (.invokestatic 55, 3) := by decide +kernel
set_option maxRecDepth 4000 in
theorem c_X12_in_367 {l : Launch} {D : va_G} {B : Nat} {cy : Nat → ClassId} {M : Mem} {p0 : Int32} (h0 : p0 < 0) : Ci l D B cy yX12_in cX12_in 3 (some .boolean) 0 0 [.int p0, .int 0, .int 6] M (fun r M1 => r = 0 ∧ M1 = M) := by
  refine s_any (by decide) (Nat.le_of_ble_eq_true rfl) ?_
  intro p e s m below meth c ls F hr hlocks w hl
  have F : CallFix p m c cX12_in 3 s _ TB RX12 := F
  have hx := F.1
  have hb := F.2.1
  have hl : lv_has ls 3 [(0, .int p0), (1, .int 0), (2, .int 6)] := hl
  refine lv_iload_n hx hb dX12_in_0 rfl (lv_at hl 0 rfl) ?_
  refine lv_iload_n hx hb dX12_in_1 rfl (lv_at hl 1 rfl) ?_
  refine lv_icmp_lt (tgt := 14) hx hb dX12_in_2 (by decide) (fun _ => ?_) (fun c1 => absurd h0 c1)
  refine lv_iconst (v := 0) hx hb dX12_in_14 (by decide) ?_
  exact e_z F w hr hlocks (by decide) ⟨rfl, rfl⟩ dX12_in_15
theorem dX12_sources_7 : decode cX12_sources 7 = .ok (.ifCond .eq 11, 3) := by decide +kernel
theorem dX12_sources_18 : decode cX12_sources 18 = .ok (.iconst (-1), 1) := by decide +kernel
theorem dX12_sources_19 : decode cX12_sources 19 = .ok (.ireturn, 1) := by decide +kernel
set_option maxRecDepth 4000 in
theorem c_X12_sources_368 {l : Launch} {D : va_G} {B : Nat} {cy : Nat → ClassId} {M : Mem} {p1 : Int32} (h0 : p1 < 0) : Ci l D B cy yX12_sources cX12_sources 2 (some .int) 1 22 [.ref (B + 146), .int p1] M (fun r M1 => r = (-1) ∧ M1 = M) := by
  refine s_any (by decide) (Nat.le_of_ble_eq_true rfl) ?_
  intro p e s m below meth c ls F hr hlocks w hl
  have F : CallFix p m c cX12_sources 2 s _ TB RX12 := F
  have hx := F.1
  have hb := F.2.1
  have hl : lv_has ls 2 [(0, .ref (B + 146)), (1, .int p1)] := hl
  refine lv_iload_n hx hb dX12_sources_0 rfl (lv_at hl 1 rfl) ?_
  refine lv_iconst (v := 0) hx hb dX12_sources_1 (by decide) ?_
  refine lv_bipush (v := 6) hx hb dX12_sources_2 (by decide) ?_
  refine x_Si F w (As := [.int p1, .int 0, .int 6]) (rest := []) (c_X12_in_367 h0) gs_X12_55 hs_X12_in ⟨Nat.le_of_ble_eq_true rfl, Nat.le_of_ble_eq_true rfl⟩ hl.1 rfl (Nat.le_of_ble_eq_true rfl) ⟨Nat.zero_le _, Nat.zero_le _⟩ dX12_sources_4 (fun H locs w => ?_)
  refine lv_if_eq (tgt := 18) hx hb dX12_sources_7 (by decide) (fun _ => ?_) (fun c1 => absurd c1 (by decide))
  refine lv_iconst (v := (-1)) hx hb dX12_sources_18 (by decide) ?_
  exact e_i F w hr hlocks ⟨rfl, rfl⟩ dX12_sources_19
theorem tk_X12_sources : Cond.code yX12_sources cX12_sources 2 (some .int) ∈ TB := tbm (tc7 (List.mem_of_getElem? (i := 24) rfl)) rfl
theorem gc_X12_sources : GoodIn TB (cw yX12_sources cX12_sources 2 (some .int)) := goodIn_c2 tk_X12_sources
theorem tb_551 : Cond.methodLink "ToneLinesLaw" 130 yX12_sources ∈ TB := tbm (tc7 (List.mem_of_getElem? (i := 21) rfl)) rfl
theorem tb_552 : Cond.instanceMethod yX12_sources ∈ TB := tbm (tc7 (List.mem_of_getElem? (i := 22) rfl)) rfl
theorem tb_553 : Cond.selects "ToneLinesModel" yX12_sources yX12_sources ∈ TB := tbm (tc7 (List.mem_of_getElem? (i := 23) rfl)) rfl
theorem gv_L_130 : GoodIn TB (wsV RL 130 RX12 yX12_sources (cw yX12_sources cX12_sources 2 (some .int))) := goodIn_4 tb_551 tb_552 tb_553 tb_150 gc_X12_sources
theorem hv_X12_sources : yX12_sources.cls = RX12 ∧ yX12_sources.cls ≠ "java/lang/invoke/MethodHandle" ∧ yX12_sources.cls ≠ "java/lang/invoke/VarHandle" ∧ (parseMethodDescriptor yX12_sources.desc).map (fun d => d.parameters.length) = some 1 := by decide +kernel
theorem dL_law_1014 : decode cL_law 1014 = .ok (.if_icmp .eq 51, 3) := by decide +kernel
set_option maxRecDepth 8000 in
theorem la_26_90 {p : Program} {l : Launch} {e : Env} {s : State} {m : MethodId} {below : List Frame} {meth : Method} {c : Code} {D : va_G} {B b : Nat} {cy : Nat → ClassId} {H : Heap} {locs : List Loc} {ls : Array Slot} {xs : Nat → Int32} {Q : State → Prop} (F : CallFix p m c code 4 s #[Value.ref b] TB RL) (hX : va_X b 6 xs s s.heap) (hbl : b < s.heap.size) (hbA : ¬ B ≤ b) (w : Wd D B cy s s.heap M0 H locs) (hl : lv_has ls 4 [(3, .int 0), (2, .ref (B + 146)), (1, .ref (B + 0)), (0, .ref b)]) (h0 : (xs 1) < 0) (kk : ∀ (M1 : Mem) (H1 : Heap) (locs1 : List Loc), Wd D B cy s s.heap M1 H1 locs1 → W p l e room_1 s m #[Value.ref b] below meth c H1 locs1 159 13107 Q (F0 m 1065 ls [])) : W p l e room_1 s m #[Value.ref b] below meth c H locs 159 13107 Q (F0 m 996 ls []) := by
  have hx := F.1
  have hb := F.2.1
  refine lv_aload_n hx hb dL_law_996 rfl (lv_at hl 2 rfl) ?_
  refine lv_aload_n hx hb dL_law_997 rfl (lv_at hl 3 rfl) ?_
  refine lv_iload_n hx hb dL_law_998 rfl (lv_at hl 0 rfl) ?_
  refine lv_iconst (v := 1) hx hb dL_law_999 (by decide) ?_
  refine lv_iadd hx hb dL_law_1000 ?_
  refine r_val (v := 1) (by decide) ?_
  refine va_sld hx hb hX hbl hbA w.2.2.1 (vpi (by decide) (by decide)) dL_law_1001 ?_
  refine r_val (v := xs 1) (congrArg xs (show (1 : Int32).toNatClampNeg = 1 by decide)) ?_
  refine x_Vi F w (As := [.int (xs 1)]) (rest := []) (a := 0) (by decide) (sh_11 rfl _ _) rfl (c_X11_sources_366 h0) gv_L_127 hv_X11_sources ⟨Nat.le_of_ble_eq_true rfl, Nat.le_of_ble_eq_true rfl⟩ hl.1 rfl (Nat.le_of_ble_eq_true rfl) ⟨Nat.le_of_ble_eq_true rfl, Nat.le_of_ble_eq_true rfl⟩ dL_law_1002 (fun H locs w => ?_)
  refine lv_aload_n hx hb dL_law_1005 rfl (lv_at hl 1 rfl) ?_
  refine lv_aload_n hx hb dL_law_1006 rfl (lv_at hl 3 rfl) ?_
  refine lv_iload_n hx hb dL_law_1007 rfl (lv_at hl 0 rfl) ?_
  refine lv_iconst (v := 1) hx hb dL_law_1008 (by decide) ?_
  refine lv_iadd hx hb dL_law_1009 ?_
  refine r_val (v := 1) (by decide) ?_
  refine va_sld hx hb hX hbl hbA w.2.2.1 (vpi (by decide) (by decide)) dL_law_1010 ?_
  refine r_val (v := xs 1) (congrArg xs (show (1 : Int32).toNatClampNeg = 1 by decide)) ?_
  refine x_Vi F w (As := [.int (xs 1)]) (rest := [.int (-1)]) (a := 146) (by decide) (sh_12 rfl _ _) rfl (c_X12_sources_368 h0) gv_L_130 hv_X12_sources ⟨Nat.le_of_ble_eq_true rfl, Nat.le_of_ble_eq_true rfl⟩ hl.1 rfl (Nat.le_of_ble_eq_true rfl) ⟨Nat.le_of_ble_eq_true rfl, Nat.le_of_ble_eq_true rfl⟩ dL_law_1011 (fun H locs w => ?_)
  refine lv_icmp_eq (tgt := 1065) hx hb dL_law_1014 (by decide) (fun _ => ?_) (fun c1 => absurd c1 (by decide))
  exact kk _ _ _ w
theorem dX11_sources_4 : decode cX11_sources 4 = .ok (.iload_n 1, 1) := by decide +kernel
theorem dX11_sources_5 : decode cX11_sources 5 = .ok (.bipush 6, 2) := by decide +kernel
theorem dX11_sources_7 : decode cX11_sources 7 = .ok (.if_icmp .le 5, 3) := by decide +kernel
theorem dX11_sources_12 : decode cX11_sources 12 = .ok (.aload_n 0, 1) := by decide +kernel
theorem dX11_sources_13 : decode cX11_sources 13 = .ok (.getfield 61, 3) := by decide +kernel
theorem dX11_sources_16 : decode cX11_sources 16 = .ok (.aload_n 0, 1) := by decide +kernel
theorem dX11_sources_17 : decode cX11_sources 17 = .ok (.getfield 35, 3) := by decide +kernel
theorem dX11_sources_20 : decode cX11_sources 20 = .ok (.aload_n 0, 1) := by decide +kernel
theorem dX11_sources_21 : decode cX11_sources 21 = .ok (.getfield 35, 3) := by decide +kernel
theorem dX11_sources_24 : decode cX11_sources 24 = .ok (.aload_n 0, 1) := by decide +kernel
theorem dX11_sources_25 : decode cX11_sources 25 = .ok (.getfield 35, 3) := by decide +kernel
theorem dX11_sources_28 : decode cX11_sources 28 = .ok (.getfield 118, 3) := by decide +kernel
theorem dX11_sources_31 : decode cX11_sources 31 = .ok (.invokevirtual 196, 3) := by decide +kernel
theorem dX11_sources_34 : decode cX11_sources 34 = .ok (.iload_n 1, 1) := by decide +kernel
theorem dX11_sources_35 : decode cX11_sources 35 = .ok (.invokevirtual 285, 3) := by decide +kernel
theorem dX6_bring_0 : decode cX6_bring 0 = .ok (.iload_n 3, 1) := by decide +kernel
theorem dX6_bring_1 : decode cX6_bring 1 = .ok (.ifCond .lt 20, 3) := by decide +kernel
theorem dX6_bring_4 : decode cX6_bring 4 = .ok (.iload_n 3, 1) := by decide +kernel
theorem dX6_bring_5 : decode cX6_bring 5 = .ok (.bipush 6, 2) := by decide +kernel
theorem dX6_bring_7 : decode cX6_bring 7 = .ok (.if_icmp .gt 14, 3) := by decide +kernel
theorem dX6_bring_10 : decode cX6_bring 10 = .ok (.aload_n 0, 1) := by decide +kernel
theorem dX6_bring_11 : decode cX6_bring 11 = .ok (.getfield 9, 3) := by decide +kernel
theorem dX6_bring_14 : decode cX6_bring 14 = .ok (.iload_n 3, 1) := by decide +kernel
theorem dX6_bring_15 : decode cX6_bring 15 = .ok (.ishr, 1) := by decide +kernel
theorem dX6_bring_16 : decode cX6_bring 16 = .ok (.iconst 1, 1) := by decide +kernel
theorem dX6_bring_17 : decode cX6_bring 17 = .ok (.iand, 1) := by decide +kernel
theorem dX6_bring_18 : decode cX6_bring 18 = .ok (.ifCond .eq 4, 3) := by decide +kernel
theorem dX6_bring_22 : decode cX6_bring 22 = .ok (.iconst 1, 1) := by decide +kernel
theorem dX6_bring_23 : decode cX6_bring 23 = .ok (.istore 4, 2) := by decide +kernel
theorem dX6_bring_25 : decode cX6_bring 25 = .ok (.iconst 0, 1) := by decide +kernel
theorem dX6_bring_26 : decode cX6_bring 26 = .ok (.istore 5, 2) := by decide +kernel
theorem dX6_bring_28 : decode cX6_bring 28 = .ok (.iload 5, 2) := by decide +kernel
theorem dX6_bring_30 : decode cX6_bring 30 = .ok (.iload_n 3, 1) := by decide +kernel
theorem dX6_bring_31 : decode cX6_bring 31 = .ok (.if_icmp .ge 15, 3) := by decide +kernel
theorem dX6_bring_46 : decode cX6_bring 46 = .ok (.aload_n 2, 1) := by decide +kernel
theorem dX6_bring_47 : decode cX6_bring 47 = .ok (.invokevirtual 29, 3) := by decide +kernel
theorem tb_554 : Cond.methodLink "ToneLines$Sources" 29 yX9_kindsRead ∈ TB := tbm (tc5 (List.mem_of_getElem? (i := 29) rfl)) rfl
theorem gv_X6_29 : GoodIn TB (wsV RX6 29 RX9 yX9_kindsRead (cw yX9_kindsRead cX9_kindsRead 5 (some .long))) := goodIn_4 tb_554 tb_520 tb_521 tb_61 gc_X9_kindsRead
theorem dX6_bring_50 : decode cX6_bring 50 = .ok (.lstore 5, 2) := by decide +kernel
theorem dX6_bring_52 : decode cX6_bring 52 = .ok (.aload_n 2, 1) := by decide +kernel
theorem dX6_bring_53 : decode cX6_bring 53 = .ok (.invokevirtual 33, 3) := by decide +kernel
theorem tb_555 : Cond.methodLink "ToneLines$Sources" 33 yX9_linesRead ∈ TB := tbm (tc5 (List.mem_of_getElem? (i := 30) rfl)) rfl
theorem gv_X6_33 : GoodIn TB (wsV RX6 33 RX9 yX9_linesRead (cw yX9_linesRead cX9_linesRead 5 (some .long))) := goodIn_4 tb_555 tb_523 tb_524 tb_61 gc_X9_linesRead
theorem dX6_bring_56 : decode cX6_bring 56 = .ok (.lstore 7, 2) := by decide +kernel
theorem dX6_bring_58 : decode cX6_bring 58 = .ok (.aload_n 0, 1) := by decide +kernel
theorem dX6_bring_59 : decode cX6_bring 59 = .ok (.getfield 15, 3) := by decide +kernel
theorem dX6_bring_62 : decode cX6_bring 62 = .ok (.iload_n 3, 1) := by decide +kernel
theorem dX6_bring_63 : decode cX6_bring 63 = .ok (.iconst 0, 1) := by decide +kernel
theorem dX6_bring_64 : decode cX6_bring 64 = .ok (.iastore, 1) := by decide +kernel
theorem dX6_bring_65 : decode cX6_bring 65 = .ok (.aload_n 0, 1) := by decide +kernel
theorem dX6_bring_66 : decode cX6_bring 66 = .ok (.getfield 19, 3) := by decide +kernel
theorem dX6_bring_69 : decode cX6_bring 69 = .ok (.iload_n 3, 1) := by decide +kernel
theorem dX6_bring_70 : decode cX6_bring 70 = .ok (.bipush (-2), 2) := by decide +kernel
theorem dX6_bring_72 : decode cX6_bring 72 = .ok (.iastore, 1) := by decide +kernel
theorem dX6_bring_73 : decode cX6_bring 73 = .ok (.iconst 0, 1) := by decide +kernel
theorem dX6_bring_74 : decode cX6_bring 74 = .ok (.istore 9, 2) := by decide +kernel
theorem dX6_bring_76 : decode cX6_bring 76 = .ok (.iload 9, 2) := by decide +kernel
theorem dX6_bring_78 : decode cX6_bring 78 = .ok (.iload 4, 2) := by decide +kernel
theorem dX6_bring_80 : decode cX6_bring 80 = .ok (.if_icmp .ge 119, 3) := by decide +kernel
theorem dX6_bring_83 : decode cX6_bring 83 = .ok (.aload_n 0, 1) := by decide +kernel
theorem dX6_bring_84 : decode cX6_bring 84 = .ok (.aload_n 1, 1) := by decide +kernel
theorem dX6_bring_85 : decode cX6_bring 85 = .ok (.getfield 36, 3) := by decide +kernel
theorem tb_556 : Cond.fieldLink "ToneLines$Sources" 36 "ToneLines$Derivation" "told" "LToneLines$Word;" ∈ TB := tbm (tc1 (List.mem_of_getElem? (i := 178) rfl)) rfl
theorem dX6_bring_88 : decode cX6_bring 88 = .ok (.iload_n 3, 1) := by decide +kernel
theorem dX6_bring_89 : decode cX6_bring 89 = .ok (.iload 9, 2) := by decide +kernel
theorem dX6_bring_91 : decode cX6_bring 91 = .ok (.invokevirtual 41, 3) := by decide +kernel
theorem dX6_layRow_0 : decode cX6_layRow 0 = .ok (.aload_n 0, 1) := by decide +kernel
theorem dX6_layRow_1 : decode cX6_layRow 1 = .ok (.getfield 25, 3) := by decide +kernel
theorem dX6_layRow_4 : decode cX6_layRow 4 = .ok (.invokevirtual 62, 3) := by decide +kernel
set_option maxRecDepth 4000 in
theorem c_X9_clear_369 {l : Launch} {D : va_G} {B : Nat} {cy : Nat → ClassId} {M : Mem} (h0 : M.1 138 0 = 0) (h1 : M.1 138 1 = 0) (h2 : M.1 138 2 = 0) (h3 : M.1 138 3 = 0) : Cv l D B cy yX9_clear cX9_clear 1 0 0 [.ref (B + 138)] M (fun M1 => M1 = M) := by
  refine s_any (by decide) (Nat.le_of_ble_eq_true rfl) ?_
  intro p e s m below meth c ls F hr hlocks w hl
  have F : CallFix p m c cX9_clear 1 s _ TB RX9 := F
  have hx := F.1
  have hb := F.2.1
  have hl : lv_has ls 1 [(0, .ref (B + 138))] := hl
  refine lv_aload_n hx hb dX9_clear_0 rfl (lv_at hl 0 rfl) ?_
  refine lv_iconst (v := 0) hx hb dX9_clear_1 (by decide) ?_
  refine u_9_0 F w (a := 138) rfl tb_63 dX9_clear_2 (fun H locs w => ?_)
  rw [st_same (h0)] at w
  refine lv_aload_n hx hb dX9_clear_5 rfl (lv_at hl 0 rfl) ?_
  refine lv_iconst (v := 0) hx hb dX9_clear_6 (by decide) ?_
  refine u_9_1 F w (a := 138) rfl tb_64 dX9_clear_7 (fun H locs w => ?_)
  rw [st_same (h1)] at w
  refine lv_aload_n hx hb dX9_clear_10 rfl (lv_at hl 0 rfl) ?_
  refine lv_iconst (v := 0) hx hb dX9_clear_11 (by decide) ?_
  refine u_9_2 F w (a := 138) rfl tb_65 dX9_clear_12 (fun H locs w => ?_)
  rw [st_same (h2)] at w
  refine lv_aload_n hx hb dX9_clear_15 rfl (lv_at hl 0 rfl) ?_
  refine lv_iconst (v := 0) hx hb dX9_clear_16 (by decide) ?_
  refine u_9_3 F w (a := 138) rfl tb_66 dX9_clear_17 (fun H locs w => ?_)
  rw [st_same (h3)] at w
  exact e_v F w hr hlocks rfl dX9_clear_20
theorem tb_557 : Cond.methodLink "ToneLines$Sources" 62 yX9_clear ∈ TB := tbm (tc5 (List.mem_of_getElem? (i := 35) rfl)) rfl
theorem gv_X6_62 : GoodIn TB (wsV RX6 62 RX9 yX9_clear (cw yX9_clear cX9_clear 1 none)) := goodIn_4 tb_557 tb_160 tb_161 tb_61 gc_X9_clear
theorem dX6_layRow_7 : decode cX6_layRow 7 = .ok (.aload_n 0, 1) := by decide +kernel
theorem dX6_layRow_8 : decode cX6_layRow 8 = .ok (.getfield 25, 3) := by decide +kernel
theorem dX6_layRow_11 : decode cX6_layRow 11 = .ok (.aload_n 1, 1) := by decide +kernel
theorem dX6_layRow_12 : decode cX6_layRow 12 = .ok (.invokevirtual 65, 3) := by decide +kernel
set_option maxRecDepth 4000 in
theorem c_X9_copySyllables_370 {l : Launch} {D : va_G} {B : Nat} {cy : Nat → ClassId} {M : Mem} (h0 : M.1 44 1 = 0) (h1 : M.1 138 1 = 0) (h2 : M.1 44 2 = 0) (h3 : M.1 138 2 = 0) (h4 : M.1 44 3 = 0) (h5 : M.1 138 3 = 0) : Cv l D B cy yX9_copySyllables cX9_copySyllables 2 0 0 [.ref (B + 138), .ref (B + 44)] M (fun M1 => M1 = M) := by
  refine s_any (by decide) (Nat.le_of_ble_eq_true rfl) ?_
  intro p e s m below meth c ls F hr hlocks w hl
  have F : CallFix p m c cX9_copySyllables 2 s _ TB RX9 := F
  have hx := F.1
  have hb := F.2.1
  have hl : lv_has ls 2 [(0, .ref (B + 138)), (1, .ref (B + 44))] := hl
  refine lv_aload_n hx hb dX9_copySyllables_0 rfl (lv_at hl 0 rfl) ?_
  refine lv_aload_n hx hb dX9_copySyllables_1 rfl (lv_at hl 1 rfl) ?_
  refine f_9_1 F w (a := 44) rfl tb_64 dX9_copySyllables_2 ?_
  refine r_val (v := 0) (h0) ?_
  refine u_9_1 F w (a := 138) rfl tb_64 dX9_copySyllables_5 (fun H locs w => ?_)
  rw [st_same (h1)] at w
  refine lv_aload_n hx hb dX9_copySyllables_8 rfl (lv_at hl 0 rfl) ?_
  refine lv_aload_n hx hb dX9_copySyllables_9 rfl (lv_at hl 1 rfl) ?_
  refine f_9_2 F w (a := 44) rfl tb_65 dX9_copySyllables_10 ?_
  refine r_val (v := 0) (h2) ?_
  refine u_9_2 F w (a := 138) rfl tb_65 dX9_copySyllables_13 (fun H locs w => ?_)
  rw [st_same (h3)] at w
  refine lv_aload_n hx hb dX9_copySyllables_16 rfl (lv_at hl 0 rfl) ?_
  refine lv_aload_n hx hb dX9_copySyllables_17 rfl (lv_at hl 1 rfl) ?_
  refine f_9_3 F w (a := 44) rfl tb_66 dX9_copySyllables_18 ?_
  refine r_val (v := 0) (h4) ?_
  refine u_9_3 F w (a := 138) rfl tb_66 dX9_copySyllables_21 (fun H locs w => ?_)
  rw [st_same (h5)] at w
  exact e_v F w hr hlocks rfl dX9_copySyllables_24
theorem tb_558 : Cond.methodLink "ToneLines$Sources" 65 yX9_copySyllables ∈ TB := tbm (tc5 (List.mem_of_getElem? (i := 36) rfl)) rfl
theorem gv_X6_65 : GoodIn TB (wsV RX6 65 RX9 yX9_copySyllables (cw yX9_copySyllables cX9_copySyllables 2 none)) := goodIn_4 tb_558 tb_264 tb_265 tb_61 gc_X9_copySyllables
theorem dX6_layRow_15 : decode cX6_layRow 15 = .ok (.iload_n 3, 1) := by decide +kernel
theorem dX6_layRow_16 : decode cX6_layRow 16 = .ok (.istore 4, 2) := by decide +kernel
theorem dX6_layRow_18 : decode cX6_layRow 18 = .ok (.iconst 0, 1) := by decide +kernel
theorem dX6_layRow_19 : decode cX6_layRow 19 = .ok (.istore 5, 2) := by decide +kernel
theorem dX6_layRow_21 : decode cX6_layRow 21 = .ok (.iload 5, 2) := by decide +kernel
theorem dX6_layRow_23 : decode cX6_layRow 23 = .ok (.iload_n 2, 1) := by decide +kernel
theorem dX6_layRow_24 : decode cX6_layRow 24 = .ok (.if_icmp .ge 27, 3) := by decide +kernel
theorem dX6_layRow_51 : decode cX6_layRow 51 = .ok (.return_, 1) := by decide +kernel
set_option maxRecDepth 4000 in
theorem c_X6_layRow_371 {l : Launch} {D : va_G} {B : Nat} {cy : Nat → ClassId} {M : Mem} (h0 : M.1 138 0 = 0) (h1 : M.1 138 1 = 0) (h2 : M.1 138 2 = 0) (h3 : M.1 138 3 = 0) (h4 : M.1 44 1 = 0) (h5 : M.1 44 2 = 0) (h6 : M.1 44 3 = 0) : Cv l D B cy yX6_layRow cX6_layRow 6 1 21 [.ref (B + 135), .ref (B + 44), .int 0, .int 0] M (fun M1 => M1 = M) := by
  refine s_any (by decide) (Nat.le_of_ble_eq_true rfl) ?_
  intro p e s m below meth c ls F hr hlocks w hl
  have F : CallFix p m c cX6_layRow 6 s _ TB RX6 := F
  have hx := F.1
  have hb := F.2.1
  have hl : lv_has ls 6 [(0, .ref (B + 135)), (1, .ref (B + 44)), (2, .int 0), (3, .int 0)] := hl
  refine lv_aload_n hx hb dX6_layRow_0 rfl (lv_at hl 0 rfl) ?_
  refine f_6_3 F w (a := 135) rfl tb_111 dX6_layRow_1 ?_
  refine x_Vv F w (As := []) (rest := []) (a := 138) (by decide) (sh_9 rfl _ _) rfl (c_X9_clear_369 (h0) (h1) (h2) (h3)) gv_X6_62 hv_X9_clear ⟨Nat.le_of_ble_eq_true rfl, Nat.le_of_ble_eq_true rfl⟩ hl.1 rfl (Nat.le_of_ble_eq_true rfl) ⟨Nat.zero_le _, Nat.zero_le _⟩ dX6_layRow_4 (fun H locs w => ?_)
  refine lv_aload_n hx hb dX6_layRow_7 rfl (lv_at hl 0 rfl) ?_
  refine f_6_3 F w (a := 135) rfl tb_111 dX6_layRow_8 ?_
  refine lv_aload_n hx hb dX6_layRow_11 rfl (lv_at hl 1 rfl) ?_
  refine x_Vv F w (As := [.ref (B + 44)]) (rest := []) (a := 138) (by decide) (sh_9 rfl _ _) rfl (c_X9_copySyllables_370 (h4) (h1) (h5) (h2) (h6) (h3)) gv_X6_65 hv_X9_copySyllables ⟨Nat.le_of_ble_eq_true rfl, Nat.le_of_ble_eq_true rfl⟩ hl.1 rfl (Nat.le_of_ble_eq_true rfl) ⟨Nat.zero_le _, Nat.zero_le _⟩ dX6_layRow_12 (fun H locs w => ?_)
  refine lv_iload_n hx hb dX6_layRow_15 rfl (lv_at hl 3 rfl) ?_
  refine lv_istore (lv' := [(4, .int 0), (0, .ref (B + 135)), (1, .ref (B + 44)), (2, .int 0), (3, .int 0)]) hx hb dX6_layRow_16 hl (by decide) rfl (fun ls hl => ?_)
  refine lv_iconst (v := 0) hx hb dX6_layRow_18 (by decide) ?_
  refine lv_istore (lv' := [(5, .int 0), (4, .int 0), (0, .ref (B + 135)), (1, .ref (B + 44)), (2, .int 0), (3, .int 0)]) hx hb dX6_layRow_19 hl (by decide) rfl (fun ls hl => ?_)
  refine lv_iload hx hb dX6_layRow_21 (lv_at hl 0 rfl) ?_
  refine lv_iload_n hx hb dX6_layRow_23 rfl (lv_at hl 4 rfl) ?_
  refine lv_icmp_ge (tgt := 51) hx hb dX6_layRow_24 (by decide) (fun _ => ?_) (fun c1 => absurd c1 (by decide))
  exact e_v F w hr hlocks rfl dX6_layRow_51
theorem tk_X6_layRow : Cond.code yX6_layRow cX6_layRow 6 none ∈ TB := tbm (tc5 (List.mem_of_getElem? (i := 34) rfl)) rfl
theorem gc_X6_layRow : GoodIn TB (cw yX6_layRow cX6_layRow 6 none) := goodIn_c2 tk_X6_layRow
theorem tb_559 : Cond.methodLink "ToneLines$Sources" 41 yX6_layRow ∈ TB := tbm (tc5 (List.mem_of_getElem? (i := 31) rfl)) rfl
theorem tb_560 : Cond.instanceMethod yX6_layRow ∈ TB := tbm (tc5 (List.mem_of_getElem? (i := 33) rfl)) rfl
theorem tb_561 : Cond.selects "ToneLines$Sources" yX6_layRow yX6_layRow ∈ TB := tbp (List.mem_of_getElem? (i := 36) rfl) rfl
theorem gv_X6_41 : GoodIn TB (wsV RX6 41 RX6 yX6_layRow (cw yX6_layRow cX6_layRow 6 none)) := goodIn_4 tb_559 tb_560 tb_561 tb_105 gc_X6_layRow
theorem hv_X6_layRow : yX6_layRow.cls = RX6 ∧ yX6_layRow.cls ≠ "java/lang/invoke/MethodHandle" ∧ yX6_layRow.cls ≠ "java/lang/invoke/VarHandle" ∧ (parseMethodDescriptor yX6_layRow.desc).map (fun d => d.parameters.length) = some 3 := by decide +kernel
theorem dX6_bring_94 : decode cX6_bring 94 = .ok (.iconst 0, 1) := by decide +kernel
theorem dX6_bring_95 : decode cX6_bring 95 = .ok (.istore 10, 2) := by decide +kernel
theorem dX6_bring_97 : decode cX6_bring 97 = .ok (.iload 10, 2) := by decide +kernel
theorem dX6_bring_99 : decode cX6_bring 99 = .ok (.aload_n 1, 1) := by decide +kernel
theorem dX6_bring_100 : decode cX6_bring 100 = .ok (.getfield 45, 3) := by decide +kernel
theorem tb_562 : Cond.fieldLink "ToneLines$Sources" 45 "ToneLines$Derivation" "size" "I" ∈ TB := tbm (tc1 (List.mem_of_getElem? (i := 172) rfl)) rfl
theorem dX6_bring_103 : decode cX6_bring 103 = .ok (.if_icmp .ge 28, 3) := by decide +kernel
theorem dX6_bring_131 : decode cX6_bring 131 = .ok (.aload_n 0, 1) := by decide +kernel
theorem dX6_bring_132 : decode cX6_bring 132 = .ok (.getfield 25, 3) := by decide +kernel
theorem dX6_bring_135 : decode cX6_bring 135 = .ok (.invokevirtual 29, 3) := by decide +kernel
set_option maxRecDepth 4000 in
theorem c_X9_kindsRead_372 {l : Launch} {D : va_G} {B : Nat} {cy : Nat → ClassId} {M : Mem} (h0 : M.1 138 0 = 0) : Cl l D B cy yX9_kindsRead cX9_kindsRead 5 0 0 [.ref (B + 138)] M (fun r M1 => r = 0 ∧ M1 = M) := by
  refine s_any (by decide) (Nat.le_of_ble_eq_true rfl) ?_
  intro p e s m below meth c ls F hr hlocks w hl
  have F : CallFix p m c cX9_kindsRead 5 s _ TB RX9 := F
  have hx := F.1
  have hb := F.2.1
  have hl : lv_has ls 5 [(0, .ref (B + 138))] := hl
  refine lv_lconst (v := 0) hx hb dX9_kindsRead_0 (by decide) ?_
  refine lv_lstore_n (lv' := [(1, .long 0), (0, .ref (B + 138))]) hx hb dX9_kindsRead_1 rfl hl (by decide) rfl (fun ls hl => ?_)
  refine lv_iconst (v := 0) hx hb dX9_kindsRead_2 (by decide) ?_
  refine lv_istore_n (lv' := [(3, .int 0), (1, .long 0), (0, .ref (B + 138))]) hx hb dX9_kindsRead_3 rfl hl (by decide) rfl (fun ls hl => ?_)
  refine lv_iload_n hx hb dX9_kindsRead_4 rfl (lv_at hl 0 rfl) ?_
  refine lv_aload_n hx hb dX9_kindsRead_5 rfl (lv_at hl 2 rfl) ?_
  refine f_9_0 F w (a := 138) rfl tb_63 dX9_kindsRead_6 ?_
  refine r_val (v := 0) (h0) ?_
  refine lv_icmp_ge (tgt := 59) hx hb dX9_kindsRead_9 (by decide) (fun _ => ?_) (fun c1 => absurd c1 (by decide))
  refine lv_lload_n hx hb dX9_kindsRead_59 rfl (lv_at hl 1 rfl) ?_
  exact e_l F w hr hlocks ⟨rfl, rfl⟩ dX9_kindsRead_60
theorem dX6_bring_138 : decode cX6_bring 138 = .ok (.lload 5, 2) := by decide +kernel
theorem dX6_bring_140 : decode cX6_bring 140 = .ok (.lcmp, 1) := by decide +kernel
theorem dX6_bring_141 : decode cX6_bring 141 = .ok (.ifCond .ne 52, 3) := by decide +kernel
theorem dX6_bring_144 : decode cX6_bring 144 = .ok (.aload_n 0, 1) := by decide +kernel
theorem dX6_bring_145 : decode cX6_bring 145 = .ok (.getfield 25, 3) := by decide +kernel
theorem dX6_bring_148 : decode cX6_bring 148 = .ok (.invokevirtual 33, 3) := by decide +kernel
set_option maxRecDepth 4000 in
theorem c_X9_linesRead_373 {l : Launch} {D : va_G} {B : Nat} {cy : Nat → ClassId} {M : Mem} (h0 : M.1 138 0 = 0) : Cl l D B cy yX9_linesRead cX9_linesRead 5 0 0 [.ref (B + 138)] M (fun r M1 => r = 0 ∧ M1 = M) := by
  refine s_any (by decide) (Nat.le_of_ble_eq_true rfl) ?_
  intro p e s m below meth c ls F hr hlocks w hl
  have F : CallFix p m c cX9_linesRead 5 s _ TB RX9 := F
  have hx := F.1
  have hb := F.2.1
  have hl : lv_has ls 5 [(0, .ref (B + 138))] := hl
  refine lv_lconst (v := 0) hx hb dX9_linesRead_0 (by decide) ?_
  refine lv_lstore_n (lv' := [(1, .long 0), (0, .ref (B + 138))]) hx hb dX9_linesRead_1 rfl hl (by decide) rfl (fun ls hl => ?_)
  refine lv_iconst (v := 0) hx hb dX9_linesRead_2 (by decide) ?_
  refine lv_istore_n (lv' := [(3, .int 0), (1, .long 0), (0, .ref (B + 138))]) hx hb dX9_linesRead_3 rfl hl (by decide) rfl (fun ls hl => ?_)
  refine lv_iload_n hx hb dX9_linesRead_4 rfl (lv_at hl 0 rfl) ?_
  refine lv_aload_n hx hb dX9_linesRead_5 rfl (lv_at hl 2 rfl) ?_
  refine f_9_0 F w (a := 138) rfl tb_63 dX9_linesRead_6 ?_
  refine r_val (v := 0) (h0) ?_
  refine lv_icmp_ge (tgt := 55) hx hb dX9_linesRead_9 (by decide) (fun _ => ?_) (fun c1 => absurd c1 (by decide))
  refine lv_lload_n hx hb dX9_linesRead_55 rfl (lv_at hl 1 rfl) ?_
  exact e_l F w hr hlocks ⟨rfl, rfl⟩ dX9_linesRead_56
theorem dX6_bring_151 : decode cX6_bring 151 = .ok (.lload 7, 2) := by decide +kernel
theorem dX6_bring_153 : decode cX6_bring 153 = .ok (.lcmp, 1) := by decide +kernel
theorem dX6_bring_154 : decode cX6_bring 154 = .ok (.ifCond .ne 39, 3) := by decide +kernel
theorem dX6_bring_157 : decode cX6_bring 157 = .ok (.aload_n 0, 1) := by decide +kernel
theorem dX6_bring_158 : decode cX6_bring 158 = .ok (.getfield 19, 3) := by decide +kernel
theorem dX6_bring_161 : decode cX6_bring 161 = .ok (.iload_n 3, 1) := by decide +kernel
theorem dX6_bring_162 : decode cX6_bring 162 = .ok (.aload_n 0, 1) := by decide +kernel
theorem dX6_bring_163 : decode cX6_bring 163 = .ok (.getfield 15, 3) := by decide +kernel
theorem dX6_bring_166 : decode cX6_bring 166 = .ok (.iload_n 3, 1) := by decide +kernel
theorem dX6_bring_167 : decode cX6_bring 167 = .ok (.iaload, 1) := by decide +kernel
theorem dX6_bring_168 : decode cX6_bring 168 = .ok (.ifCond .ne 8, 3) := by decide +kernel
theorem dX6_bring_171 : decode cX6_bring 171 = .ok (.iload 9, 2) := by decide +kernel
theorem dX6_bring_173 : decode cX6_bring 173 = .ok (.goto 9, 3) := by decide +kernel
theorem dX6_bring_182 : decode cX6_bring 182 = .ok (.iastore, 1) := by decide +kernel
theorem dX6_bring_183 : decode cX6_bring 183 = .ok (.aload_n 0, 1) := by decide +kernel
theorem dX6_bring_184 : decode cX6_bring 184 = .ok (.getfield 15, 3) := by decide +kernel
theorem dX6_bring_187 : decode cX6_bring 187 = .ok (.iload_n 3, 1) := by decide +kernel
theorem dX6_bring_188 : decode cX6_bring 188 = .ok (.dup2, 1) := by decide +kernel
theorem dX6_bring_189 : decode cX6_bring 189 = .ok (.iaload, 1) := by decide +kernel
theorem dX6_bring_190 : decode cX6_bring 190 = .ok (.iconst 1, 1) := by decide +kernel
theorem dX6_bring_191 : decode cX6_bring 191 = .ok (.iadd, 1) := by decide +kernel
theorem dX6_bring_192 : decode cX6_bring 192 = .ok (.iastore, 1) := by decide +kernel
theorem dX6_bring_193 : decode cX6_bring 193 = .ok (.iinc 9 1, 3) := by decide +kernel
theorem dX6_bring_196 : decode cX6_bring 196 = .ok (.goto (-120), 3) := by decide +kernel
theorem dX6_bring_199 : decode cX6_bring 199 = .ok (.aload_n 0, 1) := by decide +kernel
theorem dX6_bring_200 : decode cX6_bring 200 = .ok (.dup, 1) := by decide +kernel
theorem dX6_bring_201 : decode cX6_bring 201 = .ok (.getfield 9, 3) := by decide +kernel
theorem dX6_bring_204 : decode cX6_bring 204 = .ok (.iconst 1, 1) := by decide +kernel
theorem dX6_bring_205 : decode cX6_bring 205 = .ok (.iload_n 3, 1) := by decide +kernel
theorem dX6_bring_206 : decode cX6_bring 206 = .ok (.ishl, 1) := by decide +kernel
theorem dX6_bring_207 : decode cX6_bring 207 = .ok (.ior, 1) := by decide +kernel
theorem dX6_bring_208 : decode cX6_bring 208 = .ok (.putfield 9, 3) := by decide +kernel
theorem dX6_bring_211 : decode cX6_bring 211 = .ok (.return_, 1) := by decide +kernel
set_option maxRecDepth 4000 in
theorem c_X6_bring_374 {l : Launch} {D : va_G} {B : Nat} {cy : Nat → ClassId} {M : Mem} (h0 : M.1 135 0 = 0) (h1 : M.1 44 0 = 0) (h2 : M.1 136 0 = 0) (h3 : M.1 137 0 = 0) (h4 : M.1 138 0 = 0) (h5 : M.1 138 1 = 0) (h6 : M.1 138 2 = 0) (h7 : M.1 138 3 = 0) (h8 : M.1 44 1 = 0) (h9 : M.1 44 2 = 0) (h10 : M.1 44 3 = 0) (h11 : M.1 22 2 = 0) : Cv l D B cy yX6_bring cX6_bring 11 2 46 [.ref (B + 135), .ref (B + 22), .ref (B + 44), .int 0] M (fun M1 => M1 = (st (st (st (st M 137 0 (-2)) 137 0 0) 136 0 1) 135 0 1)) := by
  refine s_any (by decide) (Nat.le_of_ble_eq_true rfl) ?_
  intro p e s m below meth c ls F hr hlocks w hl
  have F : CallFix p m c cX6_bring 11 s _ TB RX6 := F
  have hx := F.1
  have hb := F.2.1
  have hl : lv_has ls 11 [(0, .ref (B + 135)), (1, .ref (B + 22)), (2, .ref (B + 44)), (3, .int 0)] := hl
  refine lv_iload_n hx hb dX6_bring_0 rfl (lv_at hl 3 rfl) ?_
  refine lv_if_lt (tgt := 21) hx hb dX6_bring_1 (by decide) (fun c1 => absurd c1 (by decide)) (fun _ => ?_)
  refine lv_iload_n hx hb dX6_bring_4 rfl (lv_at hl 3 rfl) ?_
  refine lv_bipush (v := 6) hx hb dX6_bring_5 (by decide) ?_
  refine lv_icmp_gt (tgt := 21) hx hb dX6_bring_7 (by decide) (fun c1 => absurd c1 (by decide)) (fun _ => ?_)
  refine lv_aload_n hx hb dX6_bring_10 rfl (lv_at hl 0 rfl) ?_
  refine f_6_0 F w (a := 135) rfl tb_107 dX6_bring_11 ?_
  refine r_val (v := 0) (h0) ?_
  refine lv_iload_n hx hb dX6_bring_14 rfl (lv_at hl 3 rfl) ?_
  refine lv_ishr hx hb dX6_bring_15 ?_
  refine r_val (v := 0) (by decide) ?_
  refine lv_iconst (v := 1) hx hb dX6_bring_16 (by decide) ?_
  refine lv_iand hx hb dX6_bring_17 ?_
  refine r_val (v := 0) (by decide) ?_
  refine lv_if_eq (tgt := 22) hx hb dX6_bring_18 (by decide) (fun _ => ?_) (fun c1 => absurd c1 (by decide))
  refine lv_iconst (v := 1) hx hb dX6_bring_22 (by decide) ?_
  refine lv_istore (lv' := [(4, .int 1), (0, .ref (B + 135)), (1, .ref (B + 22)), (2, .ref (B + 44)), (3, .int 0)]) hx hb dX6_bring_23 hl (by decide) rfl (fun ls hl => ?_)
  refine lv_iconst (v := 0) hx hb dX6_bring_25 (by decide) ?_
  refine lv_istore (lv' := [(5, .int 0), (4, .int 1), (0, .ref (B + 135)), (1, .ref (B + 22)), (2, .ref (B + 44)), (3, .int 0)]) hx hb dX6_bring_26 hl (by decide) rfl (fun ls hl => ?_)
  refine lv_iload hx hb dX6_bring_28 (lv_at hl 0 rfl) ?_
  refine lv_iload_n hx hb dX6_bring_30 rfl (lv_at hl 5 rfl) ?_
  refine lv_icmp_ge (tgt := 46) hx hb dX6_bring_31 (by decide) (fun _ => ?_) (fun c1 => absurd c1 (by decide))
  refine lv_aload_n hx hb dX6_bring_46 rfl (lv_at hl 4 rfl) ?_
  refine x_Vl F w (As := []) (rest := []) (a := 44) (by decide) (sh_9 rfl _ _) rfl (c_X9_kindsRead_345 (h1)) gv_X6_29 hv_X9_kindsRead ⟨Nat.le_of_ble_eq_true rfl, Nat.le_of_ble_eq_true rfl⟩ hl.1 rfl (Nat.le_of_ble_eq_true rfl) ⟨Nat.zero_le _, Nat.zero_le _⟩ dX6_bring_47 (fun H locs w => ?_)
  refine lv_lstore (lv' := [(5, .long 0), (4, .int 1), (0, .ref (B + 135)), (1, .ref (B + 22)), (2, .ref (B + 44)), (3, .int 0)]) hx hb dX6_bring_50 hl (by decide) rfl (fun ls hl => ?_)
  refine lv_aload_n hx hb dX6_bring_52 rfl (lv_at hl 4 rfl) ?_
  refine x_Vl F w (As := []) (rest := []) (a := 44) (by decide) (sh_9 rfl _ _) rfl (c_X9_linesRead_346 (h1)) gv_X6_33 hv_X9_linesRead ⟨Nat.le_of_ble_eq_true rfl, Nat.le_of_ble_eq_true rfl⟩ hl.1 rfl (Nat.le_of_ble_eq_true rfl) ⟨Nat.zero_le _, Nat.zero_le _⟩ dX6_bring_53 (fun H locs w => ?_)
  refine lv_lstore (lv' := [(7, .long 0), (5, .long 0), (4, .int 1), (0, .ref (B + 135)), (1, .ref (B + 22)), (2, .ref (B + 44)), (3, .int 0)]) hx hb dX6_bring_56 hl (by decide) rfl (fun ls hl => ?_)
  refine lv_aload_n hx hb dX6_bring_58 rfl (lv_at hl 3 rfl) ?_
  refine f_6_1 F w (a := 135) rfl tb_108 dX6_bring_59 ?_
  refine lv_iload_n hx hb dX6_bring_62 rfl (lv_at hl 6 rfl) ?_
  refine lv_iconst (v := 0) hx hb dX6_bring_63 (by decide) ?_
  refine g_iast F w (a := 136) rfl (j := 0) ⟨by decide, by decide⟩ (by decide) dX6_bring_64 (fun H locs w => ?_)
  rw [st_same (h2)] at w
  refine lv_aload_n hx hb dX6_bring_65 rfl (lv_at hl 3 rfl) ?_
  refine f_6_2 F w (a := 135) rfl tb_109 dX6_bring_66 ?_
  refine lv_iload_n hx hb dX6_bring_69 rfl (lv_at hl 6 rfl) ?_
  refine lv_bipush (v := (-2)) hx hb dX6_bring_70 (by decide) ?_
  refine g_iast F w (a := 137) rfl (j := 0) ⟨by decide, by decide⟩ (by decide) dX6_bring_72 (fun H locs w => ?_)
  refine lv_iconst (v := 0) hx hb dX6_bring_73 (by decide) ?_
  refine lv_istore (lv' := [(9, .int 0), (7, .long 0), (5, .long 0), (4, .int 1), (0, .ref (B + 135)), (1, .ref (B + 22)), (2, .ref (B + 44)), (3, .int 0)]) hx hb dX6_bring_74 hl (by decide) rfl (fun ls hl => ?_)
  refine lv_iload hx hb dX6_bring_76 (lv_at hl 0 rfl) ?_
  refine lv_iload hx hb dX6_bring_78 (lv_at hl 3 rfl) ?_
  refine lv_icmp_ge (tgt := 199) hx hb dX6_bring_80 (by decide) (fun c1 => absurd c1 (by decide)) (fun _ => ?_)
  refine lv_aload_n hx hb dX6_bring_83 rfl (lv_at hl 4 rfl) ?_
  refine lv_aload_n hx hb dX6_bring_84 rfl (lv_at hl 5 rfl) ?_
  refine f_0_4 F w (a := 22) rfl tb_556 dX6_bring_85 ?_
  refine lv_iload_n hx hb dX6_bring_88 rfl (lv_at hl 7 rfl) ?_
  refine lv_iload hx hb dX6_bring_89 (lv_at hl 0 rfl) ?_
  refine x_Vv F w (As := [.ref (B + 44), .int 0, .int 0]) (rest := []) (a := 135) (by decide) (sh_6 rfl _ _) rfl (c_X6_layRow_371 ((st_ne (by decide)).trans h4) ((st_ne (by decide)).trans h5) ((st_ne (by decide)).trans h6) ((st_ne (by decide)).trans h7) ((st_ne (by decide)).trans h8) ((st_ne (by decide)).trans h9) ((st_ne (by decide)).trans h10)) gv_X6_41 hv_X6_layRow ⟨Nat.le_of_ble_eq_true rfl, Nat.le_of_ble_eq_true rfl⟩ hl.1 rfl (Nat.le_of_ble_eq_true rfl) ⟨Nat.zero_le _, Nat.zero_le _⟩ dX6_bring_91 (fun H locs w => ?_)
  refine lv_iconst (v := 0) hx hb dX6_bring_94 (by decide) ?_
  refine lv_istore (lv' := [(10, .int 0), (9, .int 0), (7, .long 0), (5, .long 0), (4, .int 1), (0, .ref (B + 135)), (1, .ref (B + 22)), (2, .ref (B + 44)), (3, .int 0)]) hx hb dX6_bring_95 hl (by decide) rfl (fun ls hl => ?_)
  refine lv_iload hx hb dX6_bring_97 (lv_at hl 0 rfl) ?_
  refine lv_aload_n hx hb dX6_bring_99 rfl (lv_at hl 6 rfl) ?_
  refine f_0_2 F w (a := 22) rfl tb_562 dX6_bring_100 ?_
  refine r_val (v := 0) ((st_ne (by decide)).trans h11) ?_
  refine lv_icmp_ge (tgt := 131) hx hb dX6_bring_103 (by decide) (fun _ => ?_) (fun c1 => absurd c1 (by decide))
  refine lv_aload_n hx hb dX6_bring_131 rfl (lv_at hl 5 rfl) ?_
  refine f_6_3 F w (a := 135) rfl tb_111 dX6_bring_132 ?_
  refine x_Vl F w (As := []) (rest := []) (a := 138) (by decide) (sh_9 rfl _ _) rfl (c_X9_kindsRead_372 ((st_ne (by decide)).trans h4)) gv_X6_29 hv_X9_kindsRead ⟨Nat.le_of_ble_eq_true rfl, Nat.le_of_ble_eq_true rfl⟩ hl.1 rfl (Nat.le_of_ble_eq_true rfl) ⟨Nat.zero_le _, Nat.zero_le _⟩ dX6_bring_135 (fun H locs w => ?_)
  refine lv_lload hx hb dX6_bring_138 (lv_at hl 3 rfl) ?_
  refine W.lcmp hx hb dX6_bring_140 ?_
  refine r_val (v := 0) (by decide) ?_
  refine lv_if_ne (tgt := 193) hx hb dX6_bring_141 (by decide) (fun c1 => absurd c1 (by decide)) (fun _ => ?_)
  refine lv_aload_n hx hb dX6_bring_144 rfl (lv_at hl 5 rfl) ?_
  refine f_6_3 F w (a := 135) rfl tb_111 dX6_bring_145 ?_
  refine x_Vl F w (As := []) (rest := []) (a := 138) (by decide) (sh_9 rfl _ _) rfl (c_X9_linesRead_373 ((st_ne (by decide)).trans h4)) gv_X6_33 hv_X9_linesRead ⟨Nat.le_of_ble_eq_true rfl, Nat.le_of_ble_eq_true rfl⟩ hl.1 rfl (Nat.le_of_ble_eq_true rfl) ⟨Nat.zero_le _, Nat.zero_le _⟩ dX6_bring_148 (fun H locs w => ?_)
  refine lv_lload hx hb dX6_bring_151 (lv_at hl 2 rfl) ?_
  refine W.lcmp hx hb dX6_bring_153 ?_
  refine r_val (v := 0) (by decide) ?_
  refine lv_if_ne (tgt := 193) hx hb dX6_bring_154 (by decide) (fun c1 => absurd c1 (by decide)) (fun _ => ?_)
  refine lv_aload_n hx hb dX6_bring_157 rfl (lv_at hl 5 rfl) ?_
  refine f_6_2 F w (a := 135) rfl tb_109 dX6_bring_158 ?_
  refine lv_iload_n hx hb dX6_bring_161 rfl (lv_at hl 8 rfl) ?_
  refine lv_aload_n hx hb dX6_bring_162 rfl (lv_at hl 5 rfl) ?_
  refine f_6_1 F w (a := 135) rfl tb_108 dX6_bring_163 ?_
  refine lv_iload_n hx hb dX6_bring_166 rfl (lv_at hl 8 rfl) ?_
  refine g_iald F w (a := 136) rfl (j := 0) ⟨by decide, by decide⟩ (by decide) dX6_bring_167 ?_
  refine r_val (v := 0) ((st_ne (by decide)).trans h2) ?_
  refine lv_if_ne (tgt := 176) hx hb dX6_bring_168 (by decide) (fun c1 => absurd c1 (by decide)) (fun _ => ?_)
  refine lv_iload hx hb dX6_bring_171 (lv_at hl 1 rfl) ?_
  refine lv_goto (tgt := 182) hx hb dX6_bring_173 (by decide) ?_
  refine g_iast F w (a := 137) rfl (j := 0) ⟨by decide, by decide⟩ (by decide) dX6_bring_182 (fun H locs w => ?_)
  refine lv_aload_n hx hb dX6_bring_183 rfl (lv_at hl 5 rfl) ?_
  refine f_6_1 F w (a := 135) rfl tb_108 dX6_bring_184 ?_
  refine lv_iload_n hx hb dX6_bring_187 rfl (lv_at hl 8 rfl) ?_
  refine lv_dup2_11 hx hb dX6_bring_188 rfl rfl ?_
  refine g_iald F w (a := 136) rfl (j := 0) ⟨by decide, by decide⟩ (by decide) dX6_bring_189 ?_
  refine r_val (v := 0) ((st_ne (by decide)).trans ((st_ne (by decide)).trans h2)) ?_
  refine lv_iconst (v := 1) hx hb dX6_bring_190 (by decide) ?_
  refine lv_iadd hx hb dX6_bring_191 ?_
  refine r_val (v := 1) (by decide) ?_
  refine g_iast F w (a := 136) rfl (j := 0) ⟨by decide, by decide⟩ (by decide) dX6_bring_192 (fun H locs w => ?_)
  refine lv_iinc (v := 1) (lv' := [(9, .int 1), (10, .int 0), (7, .long 0), (5, .long 0), (4, .int 1), (0, .ref (B + 135)), (1, .ref (B + 22)), (2, .ref (B + 44)), (3, .int 0)]) hx hb dX6_bring_193 hl (k := 1) rfl (by decide) (by decide) rfl (fun ls hl => ?_)
  refine lv_goto (tgt := 76) hx hb dX6_bring_196 (by decide) ?_
  refine lv_iload hx hb dX6_bring_76 (lv_at hl 0 rfl) ?_
  refine lv_iload hx hb dX6_bring_78 (lv_at hl 4 rfl) ?_
  refine lv_icmp_ge (tgt := 199) hx hb dX6_bring_80 (by decide) (fun _ => ?_) (fun c1 => absurd c1 (by decide))
  refine lv_aload_n hx hb dX6_bring_199 rfl (lv_at hl 5 rfl) ?_
  refine lv_dup hx hb dX6_bring_200 rfl ?_
  refine f_6_0 F w (a := 135) rfl tb_107 dX6_bring_201 ?_
  refine r_val (v := 0) ((st_ne (by decide)).trans ((st_ne (by decide)).trans ((st_ne (by decide)).trans h0))) ?_
  refine lv_iconst (v := 1) hx hb dX6_bring_204 (by decide) ?_
  refine lv_iload_n hx hb dX6_bring_205 rfl (lv_at hl 8 rfl) ?_
  refine lv_ishl hx hb dX6_bring_206 ?_
  refine r_val (v := 1) (by decide) ?_
  refine lv_ior hx hb dX6_bring_207 ?_
  refine r_val (v := 1) (by decide) ?_
  refine u_6_0 F w (a := 135) rfl tb_107 dX6_bring_208 (fun H locs w => ?_)
  exact e_v F w hr hlocks rfl dX6_bring_211
theorem tk_X6_bring : Cond.code yX6_bring cX6_bring 11 none ∈ TB := tbm (tc5 (List.mem_of_getElem? (i := 28) rfl)) rfl
theorem gc_X6_bring : GoodIn TB (cw yX6_bring cX6_bring 11 none) := goodIn_c2 tk_X6_bring
theorem tb_563 : Cond.methodLink "ToneLines" 285 yX6_bring ∈ TB := tbm (tc5 (List.mem_of_getElem? (i := 25) rfl)) rfl
theorem tb_564 : Cond.instanceMethod yX6_bring ∈ TB := tbm (tc5 (List.mem_of_getElem? (i := 26) rfl)) rfl
theorem tb_565 : Cond.selects "ToneLines$Sources" yX6_bring yX6_bring ∈ TB := tbm (tc5 (List.mem_of_getElem? (i := 27) rfl)) rfl
theorem gv_X11_285 : GoodIn TB (wsV RX11 285 RX6 yX6_bring (cw yX6_bring cX6_bring 11 none)) := goodIn_4 tb_563 tb_564 tb_565 tb_105 gc_X6_bring
theorem hv_X6_bring : yX6_bring.cls = RX6 ∧ yX6_bring.cls ≠ "java/lang/invoke/MethodHandle" ∧ yX6_bring.cls ≠ "java/lang/invoke/VarHandle" ∧ (parseMethodDescriptor yX6_bring.desc).map (fun d => d.parameters.length) = some 3 := by decide +kernel
theorem dX11_sources_38 : decode cX11_sources 38 = .ok (.aload_n 0, 1) := by decide +kernel
theorem dX11_sources_39 : decode cX11_sources 39 = .ok (.getfield 61, 3) := by decide +kernel
theorem dX11_sources_42 : decode cX11_sources 42 = .ok (.getfield 289, 3) := by decide +kernel
theorem tb_566 : Cond.fieldLink "ToneLines" 289 "ToneLines$Sources" "counts" "[I" ∈ TB := tbm (tc2 (List.mem_of_getElem? (i := 26) rfl)) rfl
theorem dX11_sources_45 : decode cX11_sources 45 = .ok (.iload_n 1, 1) := by decide +kernel
theorem dX11_sources_46 : decode cX11_sources 46 = .ok (.iaload, 1) := by decide +kernel
theorem dX11_sources_47 : decode cX11_sources 47 = .ok (.ireturn, 1) := by decide +kernel
set_option maxRecDepth 4000 in
theorem c_X11_sources_375 {l : Launch} {D : va_G} {B : Nat} {cy : Nat → ClassId} {M : Mem} (h0 : M.1 22 2 = 0) (h1 : M.1 22 7 = 0) (h2 : M.1 135 0 = 0) (h3 : M.1 44 0 = 0) (h4 : M.1 136 0 = 0) (h5 : M.1 137 0 = 0) (h6 : M.1 138 0 = 0) (h7 : M.1 138 1 = 0) (h8 : M.1 138 2 = 0) (h9 : M.1 138 3 = 0) (h10 : M.1 44 1 = 0) (h11 : M.1 44 2 = 0) (h12 : M.1 44 3 = 0) : Ci l D B cy yX11_sources cX11_sources 2 (some .int) 3 76 [.ref (B + 0), .int 0] M (fun r M1 => r = 1 ∧ M1 = (st (st (st (st M 137 0 (-2)) 137 0 0) 136 0 1) 135 0 1)) := by
  refine s_any (by decide) (Nat.le_of_ble_eq_true rfl) ?_
  intro p e s m below meth c ls F hr hlocks w hl
  have F : CallFix p m c cX11_sources 2 s _ TB RX11 := F
  have hx := F.1
  have hb := F.2.1
  have hl : lv_has ls 2 [(0, .ref (B + 0)), (1, .int 0)] := hl
  refine lv_iload_n hx hb dX11_sources_0 rfl (lv_at hl 1 rfl) ?_
  refine lv_if_lt (tgt := 10) hx hb dX11_sources_1 (by decide) (fun c1 => absurd c1 (by decide)) (fun _ => ?_)
  refine lv_iload_n hx hb dX11_sources_4 rfl (lv_at hl 1 rfl) ?_
  refine lv_bipush (v := 6) hx hb dX11_sources_5 (by decide) ?_
  refine lv_icmp_le (tgt := 12) hx hb dX11_sources_7 (by decide) (fun _ => ?_) (fun c1 => absurd c1 (by decide))
  refine lv_aload_n hx hb dX11_sources_12 rfl (lv_at hl 0 rfl) ?_
  refine f_11_7 F w (a := 0) rfl tb_113 dX11_sources_13 ?_
  refine lv_aload_n hx hb dX11_sources_16 rfl (lv_at hl 0 rfl) ?_
  refine f_11_3 F w (a := 0) rfl tb_73 dX11_sources_17 ?_
  refine lv_aload_n hx hb dX11_sources_20 rfl (lv_at hl 0 rfl) ?_
  refine f_11_3 F w (a := 0) rfl tb_73 dX11_sources_21 ?_
  refine lv_aload_n hx hb dX11_sources_24 rfl (lv_at hl 0 rfl) ?_
  refine f_11_3 F w (a := 0) rfl tb_73 dX11_sources_25 ?_
  refine f_0_2 F w (a := 22) rfl tb_216 dX11_sources_28 ?_
  refine r_val (v := 0) (h0) ?_
  refine x_Vr F w (As := [.int 0]) (rest := [.ref (B + 22), .ref (B + 135)]) (a := 22) (by decide) (sh_0 rfl _ _) rfl (c_X0_stageOf_207 (h0) (h1)) gv_X11_196 hv_X0_stageOf ⟨Nat.le_of_ble_eq_true rfl, Nat.le_of_ble_eq_true rfl⟩ hl.1 rfl (Nat.le_of_ble_eq_true rfl) ⟨Nat.zero_le _, Nat.zero_le _⟩ dX11_sources_31 (fun H locs w => ?_)
  refine lv_iload_n hx hb dX11_sources_34 rfl (lv_at hl 1 rfl) ?_
  refine x_Vv F w (As := [.ref (B + 22), .ref (B + 44), .int 0]) (rest := []) (a := 135) (by decide) (sh_6 rfl _ _) rfl (c_X6_bring_374 (h2) (h3) (h4) (h5) (h6) (h7) (h8) (h9) (h10) (h11) (h12) (h0)) gv_X11_285 hv_X6_bring ⟨Nat.le_of_ble_eq_true rfl, Nat.le_of_ble_eq_true rfl⟩ hl.1 rfl (Nat.le_of_ble_eq_true rfl) ⟨Nat.zero_le _, Nat.zero_le _⟩ dX11_sources_35 (fun H locs w => ?_)
  refine lv_aload_n hx hb dX11_sources_38 rfl (lv_at hl 0 rfl) ?_
  refine f_11_7 F w (a := 0) rfl tb_113 dX11_sources_39 ?_
  refine f_6_1 F w (a := 135) rfl tb_566 dX11_sources_42 ?_
  refine lv_iload_n hx hb dX11_sources_45 rfl (lv_at hl 1 rfl) ?_
  refine g_iald F w (a := 136) rfl (j := 0) ⟨by decide, by decide⟩ (by decide) dX11_sources_46 ?_
  refine r_val (v := 1) ((st_ne (by decide)).trans st_at) ?_
  exact e_i F w hr hlocks ⟨rfl, rfl⟩ dX11_sources_47
set_option maxRecDepth 4000 in
theorem c_X12_in_376 {l : Launch} {D : va_G} {B : Nat} {cy : Nat → ClassId} {M : Mem} : Ci l D B cy yX12_in cX12_in 3 (some .boolean) 0 0 [.int 0, .int 0, .int 6] M (fun r M1 => r = 1 ∧ M1 = M) := by
  refine s_any (by decide) (Nat.le_of_ble_eq_true rfl) ?_
  intro p e s m below meth c ls F hr hlocks w hl
  have F : CallFix p m c cX12_in 3 s _ TB RX12 := F
  have hx := F.1
  have hb := F.2.1
  have hl : lv_has ls 3 [(0, .int 0), (1, .int 0), (2, .int 6)] := hl
  refine lv_iload_n hx hb dX12_in_0 rfl (lv_at hl 0 rfl) ?_
  refine lv_iload_n hx hb dX12_in_1 rfl (lv_at hl 1 rfl) ?_
  refine lv_icmp_lt (tgt := 14) hx hb dX12_in_2 (by decide) (fun c1 => absurd c1 (by decide)) (fun _ => ?_)
  refine lv_iload_n hx hb dX12_in_5 rfl (lv_at hl 0 rfl) ?_
  refine lv_iload_n hx hb dX12_in_6 rfl (lv_at hl 2 rfl) ?_
  refine lv_icmp_gt (tgt := 14) hx hb dX12_in_7 (by decide) (fun c1 => absurd c1 (by decide)) (fun _ => ?_)
  refine lv_iconst (v := 1) hx hb dX12_in_10 (by decide) ?_
  refine lv_goto (tgt := 15) hx hb dX12_in_11 (by decide) ?_
  exact e_z F w hr hlocks (by decide) ⟨rfl, rfl⟩ dX12_in_15
theorem dX12_sources_10 : decode cX12_sources 10 = .ok (.aload_n 0, 1) := by decide +kernel
theorem dX12_sources_11 : decode cX12_sources 11 = .ok (.iload_n 1, 1) := by decide +kernel
theorem dX12_sources_12 : decode cX12_sources 12 = .ok (.invokevirtual 321, 3) := by decide +kernel
theorem dX12_sourcesBy_0 : decode cX12_sourcesBy 0 = .ok (.aload_n 0, 1) := by decide +kernel
theorem dX12_sourcesBy_1 : decode cX12_sourcesBy 1 = .ok (.invokevirtual 303, 3) := by decide +kernel
theorem dX12_sourcesBy_4 : decode cX12_sourcesBy 4 = .ok (.aload_n 0, 1) := by decide +kernel
theorem dX12_sourcesBy_5 : decode cX12_sourcesBy 5 = .ok (.bipush (-2), 2) := by decide +kernel
theorem dX12_sourcesBy_7 : decode cX12_sourcesBy 7 = .ok (.putfield 318, 3) := by decide +kernel
theorem tb_567 : Cond.fieldLink "ToneLinesModel" 318 "ToneLinesModel" "firstSource" "I" ∈ TB := tbm (tc5 (List.mem_of_getElem? (i := 82) rfl)) rfl
theorem dX12_sourcesBy_10 : decode cX12_sourcesBy 10 = .ok (.iconst 1, 1) := by decide +kernel
theorem dX12_sourcesBy_11 : decode cX12_sourcesBy 11 = .ok (.istore_n 2, 1) := by decide +kernel
theorem dX12_sourcesBy_12 : decode cX12_sourcesBy 12 = .ok (.iconst 0, 1) := by decide +kernel
theorem dX12_sourcesBy_13 : decode cX12_sourcesBy 13 = .ok (.istore_n 3, 1) := by decide +kernel
theorem dX12_sourcesBy_14 : decode cX12_sourcesBy 14 = .ok (.iload_n 3, 1) := by decide +kernel
theorem dX12_sourcesBy_15 : decode cX12_sourcesBy 15 = .ok (.iload_n 1, 1) := by decide +kernel
theorem dX12_sourcesBy_16 : decode cX12_sourcesBy 16 = .ok (.if_icmp .ge 13, 3) := by decide +kernel
theorem dX12_sourcesBy_29 : decode cX12_sourcesBy 29 = .ok (.iconst 0, 1) := by decide +kernel
theorem dX12_sourcesBy_30 : decode cX12_sourcesBy 30 = .ok (.istore_n 3, 1) := by decide +kernel
theorem dX12_sourcesBy_31 : decode cX12_sourcesBy 31 = .ok (.iconst 0, 1) := by decide +kernel
theorem dX12_sourcesBy_32 : decode cX12_sourcesBy 32 = .ok (.istore 4, 2) := by decide +kernel
theorem dX12_sourcesBy_34 : decode cX12_sourcesBy 34 = .ok (.iload 4, 2) := by decide +kernel
theorem dX12_sourcesBy_36 : decode cX12_sourcesBy 36 = .ok (.iload_n 2, 1) := by decide +kernel
theorem dX12_sourcesBy_37 : decode cX12_sourcesBy 37 = .ok (.if_icmp .ge 115, 3) := by decide +kernel
theorem dX12_sourcesBy_40 : decode cX12_sourcesBy 40 = .ok (.aload_n 0, 1) := by decide +kernel
theorem dX12_sourcesBy_41 : decode cX12_sourcesBy 41 = .ok (.getfield 17, 3) := by decide +kernel
theorem dX12_sourcesBy_44 : decode cX12_sourcesBy 44 = .ok (.aload_n 0, 1) := by decide +kernel
theorem dX12_sourcesBy_45 : decode cX12_sourcesBy 45 = .ok (.getfield 13, 3) := by decide +kernel
theorem dX12_sourcesBy_48 : decode cX12_sourcesBy 48 = .ok (.invokestatic 162, 3) := by decide +kernel
theorem dX12_sourcesBy_51 : decode cX12_sourcesBy 51 = .ok (.aload_n 0, 1) := by decide +kernel
theorem dX12_sourcesBy_52 : decode cX12_sourcesBy 52 = .ok (.getfield 17, 3) := by decide +kernel
theorem dX12_sourcesBy_55 : decode cX12_sourcesBy 55 = .ok (.iconst 0, 1) := by decide +kernel
theorem dX12_sourcesBy_56 : decode cX12_sourcesBy 56 = .ok (.iconst 0, 1) := by decide +kernel
theorem dX12_sourcesBy_57 : decode cX12_sourcesBy 57 = .ok (.iastore, 1) := by decide +kernel
theorem dX12_sourcesBy_58 : decode cX12_sourcesBy 58 = .ok (.iload_n 2, 1) := by decide +kernel
theorem dX12_sourcesBy_59 : decode cX12_sourcesBy 59 = .ok (.istore 5, 2) := by decide +kernel
theorem dX12_sourcesBy_61 : decode cX12_sourcesBy 61 = .ok (.iconst 0, 1) := by decide +kernel
theorem dX12_sourcesBy_62 : decode cX12_sourcesBy 62 = .ok (.istore 6, 2) := by decide +kernel
theorem dX12_sourcesBy_64 : decode cX12_sourcesBy 64 = .ok (.iload 6, 2) := by decide +kernel
theorem dX12_sourcesBy_66 : decode cX12_sourcesBy 66 = .ok (.iload_n 1, 1) := by decide +kernel
theorem dX12_sourcesBy_67 : decode cX12_sourcesBy 67 = .ok (.if_icmp .ge 31, 3) := by decide +kernel
theorem dX12_sourcesBy_98 : decode cX12_sourcesBy 98 = .ok (.iconst 0, 1) := by decide +kernel
theorem dX12_sourcesBy_99 : decode cX12_sourcesBy 99 = .ok (.istore 6, 2) := by decide +kernel
theorem dX12_sourcesBy_101 : decode cX12_sourcesBy 101 = .ok (.iload 6, 2) := by decide +kernel
theorem dX12_sourcesBy_103 : decode cX12_sourcesBy 103 = .ok (.aload_n 0, 1) := by decide +kernel
theorem dX12_sourcesBy_104 : decode cX12_sourcesBy 104 = .ok (.getfield 239, 3) := by decide +kernel
theorem dX12_sourcesBy_107 : decode cX12_sourcesBy 107 = .ok (.if_icmp .ge 16, 3) := by decide +kernel
theorem dX12_sourcesBy_123 : decode cX12_sourcesBy 123 = .ok (.aload_n 0, 1) := by decide +kernel
theorem dX12_sourcesBy_124 : decode cX12_sourcesBy 124 = .ok (.invokevirtual 306, 3) := by decide +kernel
theorem dX12_sourcesBy_127 : decode cX12_sourcesBy 127 = .ok (.ifCond .ne 6, 3) := by decide +kernel
theorem dX12_sourcesBy_133 : decode cX12_sourcesBy 133 = .ok (.iload_n 3, 1) := by decide +kernel
theorem dX12_sourcesBy_134 : decode cX12_sourcesBy 134 = .ok (.ifCond .ne 9, 3) := by decide +kernel
theorem dX12_sourcesBy_137 : decode cX12_sourcesBy 137 = .ok (.aload_n 0, 1) := by decide +kernel
theorem dX12_sourcesBy_138 : decode cX12_sourcesBy 138 = .ok (.iload 4, 2) := by decide +kernel
theorem dX12_sourcesBy_140 : decode cX12_sourcesBy 140 = .ok (.putfield 318, 3) := by decide +kernel
theorem dX12_sourcesBy_143 : decode cX12_sourcesBy 143 = .ok (.iinc 3 1, 3) := by decide +kernel
theorem dX12_sourcesBy_146 : decode cX12_sourcesBy 146 = .ok (.iinc 4 1, 3) := by decide +kernel
theorem dX12_sourcesBy_149 : decode cX12_sourcesBy 149 = .ok (.goto (-115), 3) := by decide +kernel
theorem dX12_sourcesBy_152 : decode cX12_sourcesBy 152 = .ok (.iload_n 3, 1) := by decide +kernel
theorem dX12_sourcesBy_153 : decode cX12_sourcesBy 153 = .ok (.ireturn, 1) := by decide +kernel
set_option maxRecDepth 4000 in
theorem c_X12_sourcesBy_377 {l : Launch} {D : va_G} {B : Nat} {cy : Nat → ClassId} {M : Mem} (h0 : M.1 146 5 = 0) (h1 : M.1 147 0 = 0) (h2 : M.1 148 0 = 0) (h3 : M.1 147 1 = 0) (h4 : M.1 148 1 = 0) (h5 : M.1 147 2 = 0) (h6 : M.1 148 2 = 0) (h7 : M.1 147 3 = 0) (h8 : M.1 148 3 = 0) (h9 : M.1 147 4 = 0) (h10 : M.1 148 4 = 0) (h11 : M.1 147 5 = 0) (h12 : M.1 148 5 = 0) (h13 : M.1 147 6 = 0) (h14 : M.1 148 6 = 0) (h15 : M.1 147 7 = 0) (h16 : M.1 148 7 = 0) (h17 : M.1 147 8 = 0) (h18 : M.1 148 8 = 0) (h19 : M.1 147 9 = 0) (h20 : M.1 148 9 = 0) (h21 : M.1 147 10 = 0) (h22 : M.1 148 10 = 0) (h23 : M.1 147 11 = 0) (h24 : M.1 148 11 = 0) (h25 : M.1 147 12 = 0) (h26 : M.1 148 12 = 0) (h27 : M.1 147 13 = 0) (h28 : M.1 148 13 = 0) (h29 : M.1 147 14 = 0) (h30 : M.1 148 14 = 0) (h31 : M.1 147 15 = 0) (h32 : M.1 148 15 = 0) (h33 : M.1 147 16 = 0) (h34 : M.1 148 16 = 0) (h35 : M.1 147 17 = 0) (h36 : M.1 148 17 = 0) (h37 : M.1 147 18 = 0) (h38 : M.1 148 18 = 0) (h39 : M.1 147 19 = 0) (h40 : M.1 148 19 = 0) (h41 : M.1 147 20 = 0) (h42 : M.1 148 20 = 0) (h43 : M.1 147 21 = 0) (h44 : M.1 148 21 = 0) (h45 : M.1 147 22 = 0) (h46 : M.1 148 22 = 0) (h47 : M.1 147 23 = 0) (h48 : M.1 148 23 = 0) (h49 : M.1 147 24 = 0) (h50 : M.1 148 24 = 0) (h51 : M.1 147 25 = 0) (h52 : M.1 148 25 = 0) (h53 : M.1 147 26 = 0) (h54 : M.1 148 26 = 0) (h55 : M.1 147 27 = 0) (h56 : M.1 148 27 = 0) (h57 : M.1 157 0 = 0) (h58 : M.1 157 1 = 0) (h59 : M.1 157 2 = 0) (h60 : M.1 157 3 = 0) (h61 : M.1 157 4 = 0) (h62 : M.1 157 5 = 0) (h63 : M.1 157 6 = 0) (h64 : M.1 157 7 = 0) (h65 : M.1 157 8 = 0) (h66 : M.1 157 9 = 0) (h67 : M.1 157 10 = 0) (h68 : M.1 157 11 = 0) (h69 : M.1 146 26 = 0) : Ci l D B cy yX12_sourcesBy cX12_sourcesBy 7 (some .int) 3 66 [.ref (B + 146), .int 0] M (fun r M1 => r = 1 ∧ M1 = (st (st M 146 26 (-2)) 146 26 0)) := by
  refine s_any (by decide) (Nat.le_of_ble_eq_true rfl) ?_
  intro p e s m below meth c ls F hr hlocks w hl
  have F : CallFix p m c cX12_sourcesBy 7 s _ TB RX12 := F
  have hx := F.1
  have hb := F.2.1
  have hl : lv_has ls 7 [(0, .ref (B + 146)), (1, .int 0)] := hl
  refine lv_aload_n hx hb dX12_sourcesBy_0 rfl (lv_at hl 0 rfl) ?_
  refine x_Vv F w (As := []) (rest := []) (a := 146) (by decide) (sh_12 rfl _ _) rfl (c_X12_laysDue_340 (h0) (h1) (h2) (h3) (h4) (h5) (h6) (h7) (h8) (h9) (h10) (h11) (h12) (h13) (h14) (h15) (h16) (h17) (h18) (h19) (h20) (h21) (h22) (h23) (h24) (h25) (h26) (h27) (h28) (h29) (h30) (h31) (h32) (h33) (h34) (h35) (h36) (h37) (h38) (h39) (h40) (h41) (h42) (h43) (h44) (h45) (h46) (h47) (h48) (h49) (h50) (h51) (h52) (h53) (h54) (h55) (h56) (h57) (h58) (h59) (h60) (h61) (h62) (h63) (h64) (h65) (h66) (h67) (h68)) gv_X12_303 hv_X12_laysDue ⟨Nat.le_of_ble_eq_true rfl, Nat.le_of_ble_eq_true rfl⟩ hl.1 rfl (Nat.le_of_ble_eq_true rfl) ⟨Nat.zero_le _, Nat.zero_le _⟩ dX12_sourcesBy_1 (fun H locs w => ?_)
  refine lv_aload_n hx hb dX12_sourcesBy_4 rfl (lv_at hl 0 rfl) ?_
  refine lv_bipush (v := (-2)) hx hb dX12_sourcesBy_5 (by decide) ?_
  refine u_12_26 F w (a := 146) rfl tb_567 dX12_sourcesBy_7 (fun H locs w => ?_)
  refine lv_iconst (v := 1) hx hb dX12_sourcesBy_10 (by decide) ?_
  refine lv_istore_n (lv' := [(2, .int 1), (0, .ref (B + 146)), (1, .int 0)]) hx hb dX12_sourcesBy_11 rfl hl (by decide) rfl (fun ls hl => ?_)
  refine lv_iconst (v := 0) hx hb dX12_sourcesBy_12 (by decide) ?_
  refine lv_istore_n (lv' := [(3, .int 0), (2, .int 1), (0, .ref (B + 146)), (1, .int 0)]) hx hb dX12_sourcesBy_13 rfl hl (by decide) rfl (fun ls hl => ?_)
  refine lv_iload_n hx hb dX12_sourcesBy_14 rfl (lv_at hl 0 rfl) ?_
  refine lv_iload_n hx hb dX12_sourcesBy_15 rfl (lv_at hl 3 rfl) ?_
  refine lv_icmp_ge (tgt := 29) hx hb dX12_sourcesBy_16 (by decide) (fun _ => ?_) (fun c1 => absurd c1 (by decide))
  refine lv_iconst (v := 0) hx hb dX12_sourcesBy_29 (by decide) ?_
  refine lv_istore_n (lv' := [(3, .int 0), (2, .int 1), (0, .ref (B + 146)), (1, .int 0)]) hx hb dX12_sourcesBy_30 rfl hl (by decide) rfl (fun ls hl => ?_)
  refine lv_iconst (v := 0) hx hb dX12_sourcesBy_31 (by decide) ?_
  refine lv_istore (lv' := [(4, .int 0), (3, .int 0), (2, .int 1), (0, .ref (B + 146)), (1, .int 0)]) hx hb dX12_sourcesBy_32 hl (by decide) rfl (fun ls hl => ?_)
  refine lv_iload hx hb dX12_sourcesBy_34 (lv_at hl 0 rfl) ?_
  refine lv_iload_n hx hb dX12_sourcesBy_36 rfl (lv_at hl 2 rfl) ?_
  refine lv_icmp_ge (tgt := 152) hx hb dX12_sourcesBy_37 (by decide) (fun c1 => absurd c1 (by decide)) (fun _ => ?_)
  refine lv_aload_n hx hb dX12_sourcesBy_40 rfl (lv_at hl 3 rfl) ?_
  refine f_12_2 F w (a := 146) rfl tb_127 dX12_sourcesBy_41 ?_
  refine lv_aload_n hx hb dX12_sourcesBy_44 rfl (lv_at hl 3 rfl) ?_
  refine f_12_1 F w (a := 146) rfl tb_126 dX12_sourcesBy_45 ?_
  refine x_Sv F w (As := [.ref (B + 148), .ref (B + 147)]) (rest := []) (c_X12_copy_211 ((st_ne (by decide)).trans h1) ((st_ne (by decide)).trans h2) ((st_ne (by decide)).trans h3) ((st_ne (by decide)).trans h4) ((st_ne (by decide)).trans h5) ((st_ne (by decide)).trans h6) ((st_ne (by decide)).trans h7) ((st_ne (by decide)).trans h8) ((st_ne (by decide)).trans h9) ((st_ne (by decide)).trans h10) ((st_ne (by decide)).trans h11) ((st_ne (by decide)).trans h12) ((st_ne (by decide)).trans h13) ((st_ne (by decide)).trans h14) ((st_ne (by decide)).trans h15) ((st_ne (by decide)).trans h16) ((st_ne (by decide)).trans h17) ((st_ne (by decide)).trans h18) ((st_ne (by decide)).trans h19) ((st_ne (by decide)).trans h20) ((st_ne (by decide)).trans h21) ((st_ne (by decide)).trans h22) ((st_ne (by decide)).trans h23) ((st_ne (by decide)).trans h24) ((st_ne (by decide)).trans h25) ((st_ne (by decide)).trans h26) ((st_ne (by decide)).trans h27) ((st_ne (by decide)).trans h28) ((st_ne (by decide)).trans h29) ((st_ne (by decide)).trans h30) ((st_ne (by decide)).trans h31) ((st_ne (by decide)).trans h32) ((st_ne (by decide)).trans h33) ((st_ne (by decide)).trans h34) ((st_ne (by decide)).trans h35) ((st_ne (by decide)).trans h36) ((st_ne (by decide)).trans h37) ((st_ne (by decide)).trans h38) ((st_ne (by decide)).trans h39) ((st_ne (by decide)).trans h40) ((st_ne (by decide)).trans h41) ((st_ne (by decide)).trans h42) ((st_ne (by decide)).trans h43) ((st_ne (by decide)).trans h44) ((st_ne (by decide)).trans h45) ((st_ne (by decide)).trans h46) ((st_ne (by decide)).trans h47) ((st_ne (by decide)).trans h48) ((st_ne (by decide)).trans h49) ((st_ne (by decide)).trans h50) ((st_ne (by decide)).trans h51) ((st_ne (by decide)).trans h52) ((st_ne (by decide)).trans h53) ((st_ne (by decide)).trans h54) ((st_ne (by decide)).trans h55) ((st_ne (by decide)).trans h56)) gs_X12_162 hs_X12_copy ⟨Nat.le_of_ble_eq_true rfl, Nat.le_of_ble_eq_true rfl⟩ hl.1 rfl (Nat.le_of_ble_eq_true rfl) ⟨Nat.zero_le _, Nat.zero_le _⟩ dX12_sourcesBy_48 (fun H locs w => ?_)
  refine lv_aload_n hx hb dX12_sourcesBy_51 rfl (lv_at hl 3 rfl) ?_
  refine f_12_2 F w (a := 146) rfl tb_127 dX12_sourcesBy_52 ?_
  refine lv_iconst (v := 0) hx hb dX12_sourcesBy_55 (by decide) ?_
  refine lv_iconst (v := 0) hx hb dX12_sourcesBy_56 (by decide) ?_
  refine g_iast F w (a := 148) rfl (j := 0) ⟨by decide, by decide⟩ (by decide) dX12_sourcesBy_57 (fun H locs w => ?_)
  rw [st_same ((st_ne (by decide)).trans h2)] at w
  refine lv_iload_n hx hb dX12_sourcesBy_58 rfl (lv_at hl 2 rfl) ?_
  refine lv_istore (lv' := [(5, .int 1), (4, .int 0), (3, .int 0), (2, .int 1), (0, .ref (B + 146)), (1, .int 0)]) hx hb dX12_sourcesBy_59 hl (by decide) rfl (fun ls hl => ?_)
  refine lv_iconst (v := 0) hx hb dX12_sourcesBy_61 (by decide) ?_
  refine lv_istore (lv' := [(6, .int 0), (5, .int 1), (4, .int 0), (3, .int 0), (2, .int 1), (0, .ref (B + 146)), (1, .int 0)]) hx hb dX12_sourcesBy_62 hl (by decide) rfl (fun ls hl => ?_)
  refine lv_iload hx hb dX12_sourcesBy_64 (lv_at hl 0 rfl) ?_
  refine lv_iload_n hx hb dX12_sourcesBy_66 rfl (lv_at hl 6 rfl) ?_
  refine lv_icmp_ge (tgt := 98) hx hb dX12_sourcesBy_67 (by decide) (fun _ => ?_) (fun c1 => absurd c1 (by decide))
  refine lv_iconst (v := 0) hx hb dX12_sourcesBy_98 (by decide) ?_
  refine lv_istore (lv' := [(6, .int 0), (5, .int 1), (4, .int 0), (3, .int 0), (2, .int 1), (0, .ref (B + 146)), (1, .int 0)]) hx hb dX12_sourcesBy_99 hl (by decide) rfl (fun ls hl => ?_)
  refine lv_iload hx hb dX12_sourcesBy_101 (lv_at hl 0 rfl) ?_
  refine lv_aload_n hx hb dX12_sourcesBy_103 rfl (lv_at hl 5 rfl) ?_
  refine f_12_5 F w (a := 146) rfl tb_227 dX12_sourcesBy_104 ?_
  refine r_val (v := 0) ((st_ne (by decide)).trans h0) ?_
  refine lv_icmp_ge (tgt := 123) hx hb dX12_sourcesBy_107 (by decide) (fun _ => ?_) (fun c1 => absurd c1 (by decide))
  refine lv_aload_n hx hb dX12_sourcesBy_123 rfl (lv_at hl 5 rfl) ?_
  refine x_Vi F w (As := []) (rest := []) (a := 146) (by decide) (sh_12 rfl _ _) rfl (c_X12_isDue_357 ((st_ne (by decide)).trans h52)) gv_X12_306 hv_X12_isDue ⟨Nat.le_of_ble_eq_true rfl, Nat.le_of_ble_eq_true rfl⟩ hl.1 rfl (Nat.le_of_ble_eq_true rfl) ⟨Nat.zero_le _, Nat.zero_le _⟩ dX12_sourcesBy_124 (fun H locs w => ?_)
  refine lv_if_ne (tgt := 133) hx hb dX12_sourcesBy_127 (by decide) (fun _ => ?_) (fun c1 => absurd c1 (by decide))
  refine lv_iload_n hx hb dX12_sourcesBy_133 rfl (lv_at hl 3 rfl) ?_
  refine lv_if_ne (tgt := 143) hx hb dX12_sourcesBy_134 (by decide) (fun c1 => absurd c1 (by decide)) (fun _ => ?_)
  refine lv_aload_n hx hb dX12_sourcesBy_137 rfl (lv_at hl 5 rfl) ?_
  refine lv_iload hx hb dX12_sourcesBy_138 (lv_at hl 2 rfl) ?_
  refine u_12_26 F w (a := 146) rfl tb_567 dX12_sourcesBy_140 (fun H locs w => ?_)
  refine lv_iinc (v := 1) (lv' := [(3, .int 1), (6, .int 0), (5, .int 1), (4, .int 0), (2, .int 1), (0, .ref (B + 146)), (1, .int 0)]) hx hb dX12_sourcesBy_143 hl (k := 3) rfl (by decide) (by decide) rfl (fun ls hl => ?_)
  refine lv_iinc (v := 1) (lv' := [(4, .int 1), (3, .int 1), (6, .int 0), (5, .int 1), (2, .int 1), (0, .ref (B + 146)), (1, .int 0)]) hx hb dX12_sourcesBy_146 hl (k := 3) rfl (by decide) (by decide) rfl (fun ls hl => ?_)
  refine lv_goto (tgt := 34) hx hb dX12_sourcesBy_149 (by decide) ?_
  refine lv_iload hx hb dX12_sourcesBy_34 (lv_at hl 0 rfl) ?_
  refine lv_iload_n hx hb dX12_sourcesBy_36 rfl (lv_at hl 4 rfl) ?_
  refine lv_icmp_ge (tgt := 152) hx hb dX12_sourcesBy_37 (by decide) (fun _ => ?_) (fun c1 => absurd c1 (by decide))
  refine lv_iload_n hx hb dX12_sourcesBy_152 rfl (lv_at hl 1 rfl) ?_
  exact e_i F w hr hlocks ⟨rfl, rfl⟩ dX12_sourcesBy_153
theorem tk_X12_sourcesBy : Cond.code yX12_sourcesBy cX12_sourcesBy 7 (some .int) ∈ TB := tbm (tc7 (List.mem_of_getElem? (i := 28) rfl)) rfl
theorem gc_X12_sourcesBy : GoodIn TB (cw yX12_sourcesBy cX12_sourcesBy 7 (some .int)) := goodIn_c2 tk_X12_sourcesBy
theorem tb_568 : Cond.methodLink "ToneLinesModel" 321 yX12_sourcesBy ∈ TB := tbm (tc7 (List.mem_of_getElem? (i := 25) rfl)) rfl
theorem tb_569 : Cond.instanceMethod yX12_sourcesBy ∈ TB := tbm (tc7 (List.mem_of_getElem? (i := 27) rfl)) rfl
theorem tb_570 : Cond.selects "ToneLinesModel" yX12_sourcesBy yX12_sourcesBy ∈ TB := tbp (List.mem_of_getElem? (i := 89) rfl) rfl
theorem gv_X12_321 : GoodIn TB (wsV RX12 321 RX12 yX12_sourcesBy (cw yX12_sourcesBy cX12_sourcesBy 7 (some .int))) := goodIn_4 tb_568 tb_569 tb_570 tb_150 gc_X12_sourcesBy
theorem hv_X12_sourcesBy : yX12_sourcesBy.cls = RX12 ∧ yX12_sourcesBy.cls ≠ "java/lang/invoke/MethodHandle" ∧ yX12_sourcesBy.cls ≠ "java/lang/invoke/VarHandle" ∧ (parseMethodDescriptor yX12_sourcesBy.desc).map (fun d => d.parameters.length) = some 1 := by decide +kernel
theorem dX12_sources_15 : decode cX12_sources 15 = .ok (.goto 4, 3) := by decide +kernel
set_option maxRecDepth 4000 in
theorem c_X12_sources_378 {l : Launch} {D : va_G} {B : Nat} {cy : Nat → ClassId} {M : Mem} (h0 : M.1 146 5 = 0) (h1 : M.1 147 0 = 0) (h2 : M.1 148 0 = 0) (h3 : M.1 147 1 = 0) (h4 : M.1 148 1 = 0) (h5 : M.1 147 2 = 0) (h6 : M.1 148 2 = 0) (h7 : M.1 147 3 = 0) (h8 : M.1 148 3 = 0) (h9 : M.1 147 4 = 0) (h10 : M.1 148 4 = 0) (h11 : M.1 147 5 = 0) (h12 : M.1 148 5 = 0) (h13 : M.1 147 6 = 0) (h14 : M.1 148 6 = 0) (h15 : M.1 147 7 = 0) (h16 : M.1 148 7 = 0) (h17 : M.1 147 8 = 0) (h18 : M.1 148 8 = 0) (h19 : M.1 147 9 = 0) (h20 : M.1 148 9 = 0) (h21 : M.1 147 10 = 0) (h22 : M.1 148 10 = 0) (h23 : M.1 147 11 = 0) (h24 : M.1 148 11 = 0) (h25 : M.1 147 12 = 0) (h26 : M.1 148 12 = 0) (h27 : M.1 147 13 = 0) (h28 : M.1 148 13 = 0) (h29 : M.1 147 14 = 0) (h30 : M.1 148 14 = 0) (h31 : M.1 147 15 = 0) (h32 : M.1 148 15 = 0) (h33 : M.1 147 16 = 0) (h34 : M.1 148 16 = 0) (h35 : M.1 147 17 = 0) (h36 : M.1 148 17 = 0) (h37 : M.1 147 18 = 0) (h38 : M.1 148 18 = 0) (h39 : M.1 147 19 = 0) (h40 : M.1 148 19 = 0) (h41 : M.1 147 20 = 0) (h42 : M.1 148 20 = 0) (h43 : M.1 147 21 = 0) (h44 : M.1 148 21 = 0) (h45 : M.1 147 22 = 0) (h46 : M.1 148 22 = 0) (h47 : M.1 147 23 = 0) (h48 : M.1 148 23 = 0) (h49 : M.1 147 24 = 0) (h50 : M.1 148 24 = 0) (h51 : M.1 147 25 = 0) (h52 : M.1 148 25 = 0) (h53 : M.1 147 26 = 0) (h54 : M.1 148 26 = 0) (h55 : M.1 147 27 = 0) (h56 : M.1 148 27 = 0) (h57 : M.1 157 0 = 0) (h58 : M.1 157 1 = 0) (h59 : M.1 157 2 = 0) (h60 : M.1 157 3 = 0) (h61 : M.1 157 4 = 0) (h62 : M.1 157 5 = 0) (h63 : M.1 157 6 = 0) (h64 : M.1 157 7 = 0) (h65 : M.1 157 8 = 0) (h66 : M.1 157 9 = 0) (h67 : M.1 157 10 = 0) (h68 : M.1 157 11 = 0) (h69 : M.1 146 26 = 0) : Ci l D B cy yX12_sources cX12_sources 2 (some .int) 4 92 [.ref (B + 146), .int 0] M (fun r M1 => r = 1 ∧ M1 = (st (st M 146 26 (-2)) 146 26 0)) := by
  refine s_any (by decide) (Nat.le_of_ble_eq_true rfl) ?_
  intro p e s m below meth c ls F hr hlocks w hl
  have F : CallFix p m c cX12_sources 2 s _ TB RX12 := F
  have hx := F.1
  have hb := F.2.1
  have hl : lv_has ls 2 [(0, .ref (B + 146)), (1, .int 0)] := hl
  refine lv_iload_n hx hb dX12_sources_0 rfl (lv_at hl 1 rfl) ?_
  refine lv_iconst (v := 0) hx hb dX12_sources_1 (by decide) ?_
  refine lv_bipush (v := 6) hx hb dX12_sources_2 (by decide) ?_
  refine x_Si F w (As := [.int 0, .int 0, .int 6]) (rest := []) (c_X12_in_376) gs_X12_55 hs_X12_in ⟨Nat.le_of_ble_eq_true rfl, Nat.le_of_ble_eq_true rfl⟩ hl.1 rfl (Nat.le_of_ble_eq_true rfl) ⟨Nat.zero_le _, Nat.zero_le _⟩ dX12_sources_4 (fun H locs w => ?_)
  refine lv_if_eq (tgt := 18) hx hb dX12_sources_7 (by decide) (fun c1 => absurd c1 (by decide)) (fun _ => ?_)
  refine lv_aload_n hx hb dX12_sources_10 rfl (lv_at hl 0 rfl) ?_
  refine lv_iload_n hx hb dX12_sources_11 rfl (lv_at hl 1 rfl) ?_
  refine x_Vi F w (As := [.int 0]) (rest := []) (a := 146) (by decide) (sh_12 rfl _ _) rfl (c_X12_sourcesBy_377 (h0) (h1) (h2) (h3) (h4) (h5) (h6) (h7) (h8) (h9) (h10) (h11) (h12) (h13) (h14) (h15) (h16) (h17) (h18) (h19) (h20) (h21) (h22) (h23) (h24) (h25) (h26) (h27) (h28) (h29) (h30) (h31) (h32) (h33) (h34) (h35) (h36) (h37) (h38) (h39) (h40) (h41) (h42) (h43) (h44) (h45) (h46) (h47) (h48) (h49) (h50) (h51) (h52) (h53) (h54) (h55) (h56) (h57) (h58) (h59) (h60) (h61) (h62) (h63) (h64) (h65) (h66) (h67) (h68) (h69)) gv_X12_321 hv_X12_sourcesBy ⟨Nat.le_of_ble_eq_true rfl, Nat.le_of_ble_eq_true rfl⟩ hl.1 rfl (Nat.le_of_ble_eq_true rfl) ⟨Nat.zero_le _, Nat.zero_le _⟩ dX12_sources_12 (fun H locs w => ?_)
  refine lv_goto (tgt := 19) hx hb dX12_sources_15 (by decide) ?_
  exact e_i F w hr hlocks ⟨rfl, rfl⟩ dX12_sources_19
set_option maxRecDepth 8000 in
theorem la_26_91 {p : Program} {l : Launch} {e : Env} {s : State} {m : MethodId} {below : List Frame} {meth : Method} {c : Code} {D : va_G} {B b : Nat} {cy : Nat → ClassId} {H : Heap} {locs : List Loc} {ls : Array Slot} {xs : Nat → Int32} {Q : State → Prop} (F : CallFix p m c code 4 s #[Value.ref b] TB RL) (hX : va_X b 6 xs s s.heap) (hbl : b < s.heap.size) (hbA : ¬ B ≤ b) (w : Wd D B cy s s.heap M0 H locs) (hl : lv_has ls 4 [(3, .int 0), (2, .ref (B + 146)), (1, .ref (B + 0)), (0, .ref b)]) (x1 : xs 1 = 0) (kk : ∀ (M1 : Mem) (H1 : Heap) (locs1 : List Loc), Wd D B cy s s.heap M1 H1 locs1 → W p l e room_1 s m #[Value.ref b] below meth c H1 locs1 159 13107 Q (F0 m 1065 ls [])) : W p l e room_1 s m #[Value.ref b] below meth c H locs 159 13107 Q (F0 m 996 ls []) := by
  have hx := F.1
  have hb := F.2.1
  refine lv_aload_n hx hb dL_law_996 rfl (lv_at hl 2 rfl) ?_
  refine lv_aload_n hx hb dL_law_997 rfl (lv_at hl 3 rfl) ?_
  refine lv_iload_n hx hb dL_law_998 rfl (lv_at hl 0 rfl) ?_
  refine lv_iconst (v := 1) hx hb dL_law_999 (by decide) ?_
  refine lv_iadd hx hb dL_law_1000 ?_
  refine r_val (v := 1) (by decide) ?_
  refine va_sld hx hb hX hbl hbA w.2.2.1 (vpi (by decide) (by decide)) dL_law_1001 ?_
  refine r_val (v := 0) ((congrArg xs (show (1 : Int32).toNatClampNeg = 1 by decide)).trans x1) ?_
  refine x_Vi F w (As := [.int 0]) (rest := []) (a := 0) (by decide) (sh_11 rfl _ _) rfl (c_X11_sources_375 (rfl) (rfl) (rfl) (rfl) (rfl) (rfl) (rfl) (rfl) (rfl) (rfl) (rfl) (rfl) (rfl)) gv_L_127 hv_X11_sources ⟨Nat.le_of_ble_eq_true rfl, Nat.le_of_ble_eq_true rfl⟩ hl.1 rfl (Nat.le_of_ble_eq_true rfl) ⟨Nat.le_of_ble_eq_true rfl, Nat.le_of_ble_eq_true rfl⟩ dL_law_1002 (fun H locs w => ?_)
  refine lv_aload_n hx hb dL_law_1005 rfl (lv_at hl 1 rfl) ?_
  refine lv_aload_n hx hb dL_law_1006 rfl (lv_at hl 3 rfl) ?_
  refine lv_iload_n hx hb dL_law_1007 rfl (lv_at hl 0 rfl) ?_
  refine lv_iconst (v := 1) hx hb dL_law_1008 (by decide) ?_
  refine lv_iadd hx hb dL_law_1009 ?_
  refine r_val (v := 1) (by decide) ?_
  refine va_sld hx hb hX hbl hbA w.2.2.1 (vpi (by decide) (by decide)) dL_law_1010 ?_
  refine r_val (v := 0) ((congrArg xs (show (1 : Int32).toNatClampNeg = 1 by decide)).trans x1) ?_
  refine x_Vi F w (As := [.int 0]) (rest := [.int 1]) (a := 146) (by decide) (sh_12 rfl _ _) rfl (c_X12_sources_378 ((st_ne (by decide)).trans ((st_ne (by decide)).trans ((st_ne (by decide)).trans ((st_ne (by decide)).trans rfl)))) ((st_ne (by decide)).trans ((st_ne (by decide)).trans ((st_ne (by decide)).trans ((st_ne (by decide)).trans rfl)))) ((st_ne (by decide)).trans ((st_ne (by decide)).trans ((st_ne (by decide)).trans ((st_ne (by decide)).trans rfl)))) ((st_ne (by decide)).trans ((st_ne (by decide)).trans ((st_ne (by decide)).trans ((st_ne (by decide)).trans rfl)))) ((st_ne (by decide)).trans ((st_ne (by decide)).trans ((st_ne (by decide)).trans ((st_ne (by decide)).trans rfl)))) ((st_ne (by decide)).trans ((st_ne (by decide)).trans ((st_ne (by decide)).trans ((st_ne (by decide)).trans rfl)))) ((st_ne (by decide)).trans ((st_ne (by decide)).trans ((st_ne (by decide)).trans ((st_ne (by decide)).trans rfl)))) ((st_ne (by decide)).trans ((st_ne (by decide)).trans ((st_ne (by decide)).trans ((st_ne (by decide)).trans rfl)))) ((st_ne (by decide)).trans ((st_ne (by decide)).trans ((st_ne (by decide)).trans ((st_ne (by decide)).trans rfl)))) ((st_ne (by decide)).trans ((st_ne (by decide)).trans ((st_ne (by decide)).trans ((st_ne (by decide)).trans rfl)))) ((st_ne (by decide)).trans ((st_ne (by decide)).trans ((st_ne (by decide)).trans ((st_ne (by decide)).trans rfl)))) ((st_ne (by decide)).trans ((st_ne (by decide)).trans ((st_ne (by decide)).trans ((st_ne (by decide)).trans rfl)))) ((st_ne (by decide)).trans ((st_ne (by decide)).trans ((st_ne (by decide)).trans ((st_ne (by decide)).trans rfl)))) ((st_ne (by decide)).trans ((st_ne (by decide)).trans ((st_ne (by decide)).trans ((st_ne (by decide)).trans rfl)))) ((st_ne (by decide)).trans ((st_ne (by decide)).trans ((st_ne (by decide)).trans ((st_ne (by decide)).trans rfl)))) ((st_ne (by decide)).trans ((st_ne (by decide)).trans ((st_ne (by decide)).trans ((st_ne (by decide)).trans rfl)))) ((st_ne (by decide)).trans ((st_ne (by decide)).trans ((st_ne (by decide)).trans ((st_ne (by decide)).trans rfl)))) ((st_ne (by decide)).trans ((st_ne (by decide)).trans ((st_ne (by decide)).trans ((st_ne (by decide)).trans rfl)))) ((st_ne (by decide)).trans ((st_ne (by decide)).trans ((st_ne (by decide)).trans ((st_ne (by decide)).trans rfl)))) ((st_ne (by decide)).trans ((st_ne (by decide)).trans ((st_ne (by decide)).trans ((st_ne (by decide)).trans rfl)))) ((st_ne (by decide)).trans ((st_ne (by decide)).trans ((st_ne (by decide)).trans ((st_ne (by decide)).trans rfl)))) ((st_ne (by decide)).trans ((st_ne (by decide)).trans ((st_ne (by decide)).trans ((st_ne (by decide)).trans rfl)))) ((st_ne (by decide)).trans ((st_ne (by decide)).trans ((st_ne (by decide)).trans ((st_ne (by decide)).trans rfl)))) ((st_ne (by decide)).trans ((st_ne (by decide)).trans ((st_ne (by decide)).trans ((st_ne (by decide)).trans rfl)))) ((st_ne (by decide)).trans ((st_ne (by decide)).trans ((st_ne (by decide)).trans ((st_ne (by decide)).trans rfl)))) ((st_ne (by decide)).trans ((st_ne (by decide)).trans ((st_ne (by decide)).trans ((st_ne (by decide)).trans rfl)))) ((st_ne (by decide)).trans ((st_ne (by decide)).trans ((st_ne (by decide)).trans ((st_ne (by decide)).trans rfl)))) ((st_ne (by decide)).trans ((st_ne (by decide)).trans ((st_ne (by decide)).trans ((st_ne (by decide)).trans rfl)))) ((st_ne (by decide)).trans ((st_ne (by decide)).trans ((st_ne (by decide)).trans ((st_ne (by decide)).trans rfl)))) ((st_ne (by decide)).trans ((st_ne (by decide)).trans ((st_ne (by decide)).trans ((st_ne (by decide)).trans rfl)))) ((st_ne (by decide)).trans ((st_ne (by decide)).trans ((st_ne (by decide)).trans ((st_ne (by decide)).trans rfl)))) ((st_ne (by decide)).trans ((st_ne (by decide)).trans ((st_ne (by decide)).trans ((st_ne (by decide)).trans rfl)))) ((st_ne (by decide)).trans ((st_ne (by decide)).trans ((st_ne (by decide)).trans ((st_ne (by decide)).trans rfl)))) ((st_ne (by decide)).trans ((st_ne (by decide)).trans ((st_ne (by decide)).trans ((st_ne (by decide)).trans rfl)))) ((st_ne (by decide)).trans ((st_ne (by decide)).trans ((st_ne (by decide)).trans ((st_ne (by decide)).trans rfl)))) ((st_ne (by decide)).trans ((st_ne (by decide)).trans ((st_ne (by decide)).trans ((st_ne (by decide)).trans rfl)))) ((st_ne (by decide)).trans ((st_ne (by decide)).trans ((st_ne (by decide)).trans ((st_ne (by decide)).trans rfl)))) ((st_ne (by decide)).trans ((st_ne (by decide)).trans ((st_ne (by decide)).trans ((st_ne (by decide)).trans rfl)))) ((st_ne (by decide)).trans ((st_ne (by decide)).trans ((st_ne (by decide)).trans ((st_ne (by decide)).trans rfl)))) ((st_ne (by decide)).trans ((st_ne (by decide)).trans ((st_ne (by decide)).trans ((st_ne (by decide)).trans rfl)))) ((st_ne (by decide)).trans ((st_ne (by decide)).trans ((st_ne (by decide)).trans ((st_ne (by decide)).trans rfl)))) ((st_ne (by decide)).trans ((st_ne (by decide)).trans ((st_ne (by decide)).trans ((st_ne (by decide)).trans rfl)))) ((st_ne (by decide)).trans ((st_ne (by decide)).trans ((st_ne (by decide)).trans ((st_ne (by decide)).trans rfl)))) ((st_ne (by decide)).trans ((st_ne (by decide)).trans ((st_ne (by decide)).trans ((st_ne (by decide)).trans rfl)))) ((st_ne (by decide)).trans ((st_ne (by decide)).trans ((st_ne (by decide)).trans ((st_ne (by decide)).trans rfl)))) ((st_ne (by decide)).trans ((st_ne (by decide)).trans ((st_ne (by decide)).trans ((st_ne (by decide)).trans rfl)))) ((st_ne (by decide)).trans ((st_ne (by decide)).trans ((st_ne (by decide)).trans ((st_ne (by decide)).trans rfl)))) ((st_ne (by decide)).trans ((st_ne (by decide)).trans ((st_ne (by decide)).trans ((st_ne (by decide)).trans rfl)))) ((st_ne (by decide)).trans ((st_ne (by decide)).trans ((st_ne (by decide)).trans ((st_ne (by decide)).trans rfl)))) ((st_ne (by decide)).trans ((st_ne (by decide)).trans ((st_ne (by decide)).trans ((st_ne (by decide)).trans rfl)))) ((st_ne (by decide)).trans ((st_ne (by decide)).trans ((st_ne (by decide)).trans ((st_ne (by decide)).trans rfl)))) ((st_ne (by decide)).trans ((st_ne (by decide)).trans ((st_ne (by decide)).trans ((st_ne (by decide)).trans rfl)))) ((st_ne (by decide)).trans ((st_ne (by decide)).trans ((st_ne (by decide)).trans ((st_ne (by decide)).trans rfl)))) ((st_ne (by decide)).trans ((st_ne (by decide)).trans ((st_ne (by decide)).trans ((st_ne (by decide)).trans rfl)))) ((st_ne (by decide)).trans ((st_ne (by decide)).trans ((st_ne (by decide)).trans ((st_ne (by decide)).trans rfl)))) ((st_ne (by decide)).trans ((st_ne (by decide)).trans ((st_ne (by decide)).trans ((st_ne (by decide)).trans rfl)))) ((st_ne (by decide)).trans ((st_ne (by decide)).trans ((st_ne (by decide)).trans ((st_ne (by decide)).trans rfl)))) ((st_ne (by decide)).trans ((st_ne (by decide)).trans ((st_ne (by decide)).trans ((st_ne (by decide)).trans rfl)))) ((st_ne (by decide)).trans ((st_ne (by decide)).trans ((st_ne (by decide)).trans ((st_ne (by decide)).trans rfl)))) ((st_ne (by decide)).trans ((st_ne (by decide)).trans ((st_ne (by decide)).trans ((st_ne (by decide)).trans rfl)))) ((st_ne (by decide)).trans ((st_ne (by decide)).trans ((st_ne (by decide)).trans ((st_ne (by decide)).trans rfl)))) ((st_ne (by decide)).trans ((st_ne (by decide)).trans ((st_ne (by decide)).trans ((st_ne (by decide)).trans rfl)))) ((st_ne (by decide)).trans ((st_ne (by decide)).trans ((st_ne (by decide)).trans ((st_ne (by decide)).trans rfl)))) ((st_ne (by decide)).trans ((st_ne (by decide)).trans ((st_ne (by decide)).trans ((st_ne (by decide)).trans rfl)))) ((st_ne (by decide)).trans ((st_ne (by decide)).trans ((st_ne (by decide)).trans ((st_ne (by decide)).trans rfl)))) ((st_ne (by decide)).trans ((st_ne (by decide)).trans ((st_ne (by decide)).trans ((st_ne (by decide)).trans rfl)))) ((st_ne (by decide)).trans ((st_ne (by decide)).trans ((st_ne (by decide)).trans ((st_ne (by decide)).trans rfl)))) ((st_ne (by decide)).trans ((st_ne (by decide)).trans ((st_ne (by decide)).trans ((st_ne (by decide)).trans rfl)))) ((st_ne (by decide)).trans ((st_ne (by decide)).trans ((st_ne (by decide)).trans ((st_ne (by decide)).trans rfl)))) ((st_ne (by decide)).trans ((st_ne (by decide)).trans ((st_ne (by decide)).trans ((st_ne (by decide)).trans rfl))))) gv_L_130 hv_X12_sources ⟨Nat.le_of_ble_eq_true rfl, Nat.le_of_ble_eq_true rfl⟩ hl.1 rfl (Nat.le_of_ble_eq_true rfl) ⟨Nat.le_of_ble_eq_true rfl, Nat.le_of_ble_eq_true rfl⟩ dL_law_1011 (fun H locs w => ?_)
  refine lv_icmp_eq (tgt := 1065) hx hb dL_law_1014 (by decide) (fun _ => ?_) (fun c1 => absurd c1 (by decide))
  exact kk _ _ _ w
theorem dX6_bring_34 : decode cX6_bring 34 = .ok (.iload 4, 2) := by decide +kernel
theorem dX6_bring_36 : decode cX6_bring 36 = .ok (.iconst 3, 1) := by decide +kernel
theorem dX6_bring_37 : decode cX6_bring 37 = .ok (.imul, 1) := by decide +kernel
theorem dX6_bring_38 : decode cX6_bring 38 = .ok (.istore 4, 2) := by decide +kernel
theorem dX6_bring_40 : decode cX6_bring 40 = .ok (.iinc 5 1, 3) := by decide +kernel
theorem dX6_bring_43 : decode cX6_bring 43 = .ok (.goto (-15), 3) := by decide +kernel
theorem dX6_layRow_27 : decode cX6_layRow 27 = .ok (.aload_n 0, 1) := by decide +kernel
theorem dX6_layRow_28 : decode cX6_layRow 28 = .ok (.getfield 25, 3) := by decide +kernel
theorem dX6_layRow_31 : decode cX6_layRow 31 = .ok (.iconst 0, 1) := by decide +kernel
theorem dX6_layRow_32 : decode cX6_layRow 32 = .ok (.iload 4, 2) := by decide +kernel
theorem dX6_layRow_34 : decode cX6_layRow 34 = .ok (.iconst 3, 1) := by decide +kernel
theorem dX6_layRow_35 : decode cX6_layRow 35 = .ok (.irem, 1) := by decide +kernel
theorem dX6_layRow_36 : decode cX6_layRow 36 = .ok (.invokevirtual 69, 3) := by decide +kernel
set_option maxRecDepth 4000 in
theorem c_X9_insertTone_379 {l : Launch} {D : va_G} {B : Nat} {cy : Nat → ClassId} {M : Mem} (h0 : M.1 138 0 = 0) (h1 : M.1 140 0 = 0) : Cv l D B cy yX9_insertTone cX9_insertTone 4 0 0 [.ref (B + 138), .int 0, .int 0] M (fun M1 => ∃ f, M1 = sA (st M 138 0 1) 139 f) := by
  refine s_any (by decide) (Nat.le_of_ble_eq_true rfl) ?_
  intro p e s m below meth c ls F hr hlocks w hl
  have F : CallFix p m c cX9_insertTone 4 s _ TB RX9 := F
  have hx := F.1
  have hb := F.2.1
  have hl : lv_has ls 4 [(0, .ref (B + 138)), (1, .int 0), (2, .int 0)] := hl
  refine lv_iload_n hx hb dX9_insertTone_0 rfl (lv_at hl 1 rfl) ?_
  refine lv_if_lt (tgt := 21) hx hb dX9_insertTone_1 (by decide) (fun c1 => absurd c1 (by decide)) (fun _ => ?_)
  refine lv_iload_n hx hb dX9_insertTone_4 rfl (lv_at hl 1 rfl) ?_
  refine lv_aload_n hx hb dX9_insertTone_5 rfl (lv_at hl 0 rfl) ?_
  refine f_9_0 F w (a := 138) rfl tb_63 dX9_insertTone_6 ?_
  refine r_val (v := 0) (h0) ?_
  refine lv_icmp_gt (tgt := 21) hx hb dX9_insertTone_9 (by decide) (fun c1 => absurd c1 (by decide)) (fun _ => ?_)
  refine lv_aload_n hx hb dX9_insertTone_12 rfl (lv_at hl 0 rfl) ?_
  refine f_9_0 F w (a := 138) rfl tb_63 dX9_insertTone_13 ?_
  refine r_val (v := 0) (h0) ?_
  refine lv_bipush (v := 12) hx hb dX9_insertTone_16 (by decide) ?_
  refine lv_icmp_lt (tgt := 22) hx hb dX9_insertTone_18 (by decide) (fun _ => ?_) (fun c1 => absurd c1 (by decide))
  refine lv_aload_n hx hb dX9_insertTone_22 rfl (lv_at hl 0 rfl) ?_
  refine f_9_0 F w (a := 138) rfl tb_63 dX9_insertTone_23 ?_
  refine r_val (v := 0) (h0) ?_
  refine lv_istore_n (lv' := [(3, .int 0), (0, .ref (B + 138)), (1, .int 0), (2, .int 0)]) hx hb dX9_insertTone_26 rfl hl (by decide) rfl (fun ls hl => ?_)
  refine lv_iload_n hx hb dX9_insertTone_27 rfl (lv_at hl 0 rfl) ?_
  refine lv_iload_n hx hb dX9_insertTone_28 rfl (lv_at hl 2 rfl) ?_
  refine lv_icmp_le (tgt := 66) hx hb dX9_insertTone_29 (by decide) (fun _ => ?_) (fun c1 => absurd c1 (by decide))
  refine lv_aload_n hx hb dX9_insertTone_66 rfl (lv_at hl 1 rfl) ?_
  refine f_9_4 F w (a := 138) rfl tb_67 dX9_insertTone_67 ?_
  refine lv_iload_n hx hb dX9_insertTone_70 rfl (lv_at hl 2 rfl) ?_
  refine lv_iload_n hx hb dX9_insertTone_71 rfl (lv_at hl 3 rfl) ?_
  refine g_iast F w (a := 139) rfl (j := 0) ⟨by decide, by decide⟩ (by decide) dX9_insertTone_72 (fun H locs w => ?_)
  obtain ⟨f21, w⟩ := hv_some w
  refine lv_aload_n hx hb dX9_insertTone_73 rfl (lv_at hl 1 rfl) ?_
  refine f_9_5 F w (a := 138) rfl tb_68 dX9_insertTone_74 ?_
  refine lv_iload_n hx hb dX9_insertTone_77 rfl (lv_at hl 2 rfl) ?_
  refine lv_iconst (v := 0) hx hb dX9_insertTone_78 (by decide) ?_
  refine g_iast F w (a := 140) rfl (j := 0) ⟨by decide, by decide⟩ (by decide) dX9_insertTone_79 (fun H locs w => ?_)
  rw [st_same ((sA_ne (by decide)).trans h1)] at w
  refine lv_aload_n hx hb dX9_insertTone_80 rfl (lv_at hl 1 rfl) ?_
  refine lv_dup hx hb dX9_insertTone_81 rfl ?_
  refine f_9_0 F w (a := 138) rfl tb_63 dX9_insertTone_82 ?_
  refine r_val (v := 0) ((sA_ne (by decide)).trans h0) ?_
  refine lv_iconst (v := 1) hx hb dX9_insertTone_85 (by decide) ?_
  refine lv_iadd hx hb dX9_insertTone_86 ?_
  refine r_val (v := 1) (by decide) ?_
  refine u_9_0 F w (a := 138) rfl tb_63 dX9_insertTone_87 (fun H locs w => ?_)
  exact e_v F w hr hlocks ⟨_, hv_ext (a := 139) (fun b hb => by simp [st, sA, hb]) rfl⟩ dX9_insertTone_90
theorem tb_571 : Cond.methodLink "ToneLines$Sources" 69 yX9_insertTone ∈ TB := tbm (tc5 (List.mem_of_getElem? (i := 37) rfl)) rfl
theorem gv_X6_69 : GoodIn TB (wsV RX6 69 RX9 yX9_insertTone (cw yX9_insertTone cX9_insertTone 4 none)) := goodIn_4 tb_571 tb_281 tb_282 tb_61 gc_X9_insertTone
theorem dX6_layRow_39 : decode cX6_layRow 39 = .ok (.iload 4, 2) := by decide +kernel
theorem dX6_layRow_41 : decode cX6_layRow 41 = .ok (.iconst 3, 1) := by decide +kernel
theorem dX6_layRow_42 : decode cX6_layRow 42 = .ok (.idiv, 1) := by decide +kernel
theorem dX6_layRow_43 : decode cX6_layRow 43 = .ok (.istore 4, 2) := by decide +kernel
theorem dX6_layRow_45 : decode cX6_layRow 45 = .ok (.iinc 5 1, 3) := by decide +kernel
theorem dX6_layRow_48 : decode cX6_layRow 48 = .ok (.goto (-27), 3) := by decide +kernel
set_option maxRecDepth 4000 in
theorem c_X6_layRow_380 {l : Launch} {D : va_G} {B : Nat} {cy : Nat → ClassId} {M : Mem} (h0 : M.1 138 0 = 0) (h1 : M.1 138 1 = 0) (h2 : M.1 138 2 = 0) (h3 : M.1 138 3 = 0) (h4 : M.1 44 1 = 0) (h5 : M.1 44 2 = 0) (h6 : M.1 44 3 = 0) (h7 : M.1 140 0 = 0) : Cv l D B cy yX6_layRow cX6_layRow 6 1 23 [.ref (B + 135), .ref (B + 44), .int 1, .int 0] M (fun M1 => ∃ f, M1 = sA (st M 138 0 1) 139 f) := by
  refine s_any (by decide) (Nat.le_of_ble_eq_true rfl) ?_
  intro p e s m below meth c ls F hr hlocks w hl
  have F : CallFix p m c cX6_layRow 6 s _ TB RX6 := F
  have hx := F.1
  have hb := F.2.1
  have hl : lv_has ls 6 [(0, .ref (B + 135)), (1, .ref (B + 44)), (2, .int 1), (3, .int 0)] := hl
  refine lv_aload_n hx hb dX6_layRow_0 rfl (lv_at hl 0 rfl) ?_
  refine f_6_3 F w (a := 135) rfl tb_111 dX6_layRow_1 ?_
  refine x_Vv F w (As := []) (rest := []) (a := 138) (by decide) (sh_9 rfl _ _) rfl (c_X9_clear_369 (h0) (h1) (h2) (h3)) gv_X6_62 hv_X9_clear ⟨Nat.le_of_ble_eq_true rfl, Nat.le_of_ble_eq_true rfl⟩ hl.1 rfl (Nat.le_of_ble_eq_true rfl) ⟨Nat.zero_le _, Nat.zero_le _⟩ dX6_layRow_4 (fun H locs w => ?_)
  refine lv_aload_n hx hb dX6_layRow_7 rfl (lv_at hl 0 rfl) ?_
  refine f_6_3 F w (a := 135) rfl tb_111 dX6_layRow_8 ?_
  refine lv_aload_n hx hb dX6_layRow_11 rfl (lv_at hl 1 rfl) ?_
  refine x_Vv F w (As := [.ref (B + 44)]) (rest := []) (a := 138) (by decide) (sh_9 rfl _ _) rfl (c_X9_copySyllables_370 (h4) (h1) (h5) (h2) (h6) (h3)) gv_X6_65 hv_X9_copySyllables ⟨Nat.le_of_ble_eq_true rfl, Nat.le_of_ble_eq_true rfl⟩ hl.1 rfl (Nat.le_of_ble_eq_true rfl) ⟨Nat.zero_le _, Nat.zero_le _⟩ dX6_layRow_12 (fun H locs w => ?_)
  refine lv_iload_n hx hb dX6_layRow_15 rfl (lv_at hl 3 rfl) ?_
  refine lv_istore (lv' := [(4, .int 0), (0, .ref (B + 135)), (1, .ref (B + 44)), (2, .int 1), (3, .int 0)]) hx hb dX6_layRow_16 hl (by decide) rfl (fun ls hl => ?_)
  refine lv_iconst (v := 0) hx hb dX6_layRow_18 (by decide) ?_
  refine lv_istore (lv' := [(5, .int 0), (4, .int 0), (0, .ref (B + 135)), (1, .ref (B + 44)), (2, .int 1), (3, .int 0)]) hx hb dX6_layRow_19 hl (by decide) rfl (fun ls hl => ?_)
  refine lv_iload hx hb dX6_layRow_21 (lv_at hl 0 rfl) ?_
  refine lv_iload_n hx hb dX6_layRow_23 rfl (lv_at hl 4 rfl) ?_
  refine lv_icmp_ge (tgt := 51) hx hb dX6_layRow_24 (by decide) (fun c1 => absurd c1 (by decide)) (fun _ => ?_)
  refine lv_aload_n hx hb dX6_layRow_27 rfl (lv_at hl 2 rfl) ?_
  refine f_6_3 F w (a := 135) rfl tb_111 dX6_layRow_28 ?_
  refine lv_iconst (v := 0) hx hb dX6_layRow_31 (by decide) ?_
  refine lv_iload hx hb dX6_layRow_32 (lv_at hl 1 rfl) ?_
  refine lv_iconst (v := 3) hx hb dX6_layRow_34 (by decide) ?_
  refine lv_irem hx hb dX6_layRow_35 (by decide) ?_
  refine r_val (v := 0) (by decide) ?_
  refine k_Vv F w (As := [.int 0, .int 0]) (rest := []) (a := 138) (by decide) (sh_9 rfl _ _) rfl (c_X9_insertTone_379 (h0) (h7)) gv_X6_69 hv_X9_insertTone ⟨Nat.le_of_ble_eq_true rfl, Nat.le_of_ble_eq_true rfl⟩ hl.1 rfl (Nat.le_of_ble_eq_true rfl) ⟨Nat.zero_le _, Nat.zero_le _⟩ dX6_layRow_36 (fun M1 H locs hp w => ?_)
  obtain ⟨f21, hf⟩ := hp
  rw [hf] at w
  clear hf
  refine lv_iload hx hb dX6_layRow_39 (lv_at hl 1 rfl) ?_
  refine lv_iconst (v := 3) hx hb dX6_layRow_41 (by decide) ?_
  refine lv_idiv hx hb dX6_layRow_42 (by decide) ?_
  refine r_val (v := 0) (by decide) ?_
  refine lv_istore (lv' := [(4, .int 0), (5, .int 0), (0, .ref (B + 135)), (1, .ref (B + 44)), (2, .int 1), (3, .int 0)]) hx hb dX6_layRow_43 hl (by decide) rfl (fun ls hl => ?_)
  refine lv_iinc (v := 1) (lv' := [(5, .int 1), (4, .int 0), (0, .ref (B + 135)), (1, .ref (B + 44)), (2, .int 1), (3, .int 0)]) hx hb dX6_layRow_45 hl (k := 1) rfl (by decide) (by decide) rfl (fun ls hl => ?_)
  refine lv_goto (tgt := 21) hx hb dX6_layRow_48 (by decide) ?_
  refine lv_iload hx hb dX6_layRow_21 (lv_at hl 0 rfl) ?_
  refine lv_iload_n hx hb dX6_layRow_23 rfl (lv_at hl 4 rfl) ?_
  refine lv_icmp_ge (tgt := 51) hx hb dX6_layRow_24 (by decide) (fun _ => ?_) (fun c1 => absurd c1 (by decide))
  exact e_v F w hr hlocks ⟨_, hv_ext (a := 139) (fun b hb => by simp [st, sA, hb]) rfl⟩ dX6_layRow_51
theorem dX9_kindsRead_12 : decode cX9_kindsRead 12 = .ok (.aload_n 0, 1) := by decide +kernel
theorem dX9_kindsRead_13 : decode cX9_kindsRead 13 = .ok (.getfield 28, 3) := by decide +kernel
theorem dX9_kindsRead_16 : decode cX9_kindsRead 16 = .ok (.iload_n 3, 1) := by decide +kernel
theorem dX9_kindsRead_17 : decode cX9_kindsRead 17 = .ok (.iaload, 1) := by decide +kernel
theorem dX9_kindsRead_18 : decode cX9_kindsRead 18 = .ok (.istore 4, 2) := by decide +kernel
theorem dX9_kindsRead_20 : decode cX9_kindsRead 20 = .ok (.iload 4, 2) := by decide +kernel
theorem dX9_kindsRead_22 : decode cX9_kindsRead 22 = .ok (.ifCond .eq 31, 3) := by decide +kernel
theorem dX9_kindsRead_53 : decode cX9_kindsRead 53 = .ok (.iinc 3 1, 3) := by decide +kernel
theorem dX9_kindsRead_56 : decode cX9_kindsRead 56 = .ok (.goto (-52), 3) := by decide +kernel
set_option maxRecDepth 4000 in
theorem c_X9_kindsRead_381 {l : Launch} {D : va_G} {B : Nat} {cy : Nat → ClassId} {M : Mem} (h0 : M.1 138 0 = 1) (h1 : M.1 140 0 = 0) : Cl l D B cy yX9_kindsRead cX9_kindsRead 5 0 0 [.ref (B + 138)] M (fun r M1 => r = 0 ∧ M1 = M) := by
  refine s_any (by decide) (Nat.le_of_ble_eq_true rfl) ?_
  intro p e s m below meth c ls F hr hlocks w hl
  have F : CallFix p m c cX9_kindsRead 5 s _ TB RX9 := F
  have hx := F.1
  have hb := F.2.1
  have hl : lv_has ls 5 [(0, .ref (B + 138))] := hl
  refine lv_lconst (v := 0) hx hb dX9_kindsRead_0 (by decide) ?_
  refine lv_lstore_n (lv' := [(1, .long 0), (0, .ref (B + 138))]) hx hb dX9_kindsRead_1 rfl hl (by decide) rfl (fun ls hl => ?_)
  refine lv_iconst (v := 0) hx hb dX9_kindsRead_2 (by decide) ?_
  refine lv_istore_n (lv' := [(3, .int 0), (1, .long 0), (0, .ref (B + 138))]) hx hb dX9_kindsRead_3 rfl hl (by decide) rfl (fun ls hl => ?_)
  refine lv_iload_n hx hb dX9_kindsRead_4 rfl (lv_at hl 0 rfl) ?_
  refine lv_aload_n hx hb dX9_kindsRead_5 rfl (lv_at hl 2 rfl) ?_
  refine f_9_0 F w (a := 138) rfl tb_63 dX9_kindsRead_6 ?_
  refine r_val (v := 1) (h0) ?_
  refine lv_icmp_ge (tgt := 59) hx hb dX9_kindsRead_9 (by decide) (fun c1 => absurd c1 (by decide)) (fun _ => ?_)
  refine lv_aload_n hx hb dX9_kindsRead_12 rfl (lv_at hl 2 rfl) ?_
  refine f_9_5 F w (a := 138) rfl tb_68 dX9_kindsRead_13 ?_
  refine lv_iload_n hx hb dX9_kindsRead_16 rfl (lv_at hl 0 rfl) ?_
  refine g_iald F w (a := 140) rfl (j := 0) ⟨by decide, by decide⟩ (by decide) dX9_kindsRead_17 ?_
  refine r_val (v := 0) (h1) ?_
  refine lv_istore (lv' := [(4, .int 0), (3, .int 0), (1, .long 0), (0, .ref (B + 138))]) hx hb dX9_kindsRead_18 hl (by decide) rfl (fun ls hl => ?_)
  refine lv_iload hx hb dX9_kindsRead_20 (lv_at hl 0 rfl) ?_
  refine lv_if_eq (tgt := 53) hx hb dX9_kindsRead_22 (by decide) (fun _ => ?_) (fun c1 => absurd c1 (by decide))
  refine lv_iinc (v := 1) (lv' := [(3, .int 1), (4, .int 0), (1, .long 0), (0, .ref (B + 138))]) hx hb dX9_kindsRead_53 hl (k := 1) rfl (by decide) (by decide) rfl (fun ls hl => ?_)
  refine lv_goto (tgt := 4) hx hb dX9_kindsRead_56 (by decide) ?_
  refine lv_iload_n hx hb dX9_kindsRead_4 rfl (lv_at hl 0 rfl) ?_
  refine lv_aload_n hx hb dX9_kindsRead_5 rfl (lv_at hl 3 rfl) ?_
  refine f_9_0 F w (a := 138) rfl tb_63 dX9_kindsRead_6 ?_
  refine r_val (v := 1) (h0) ?_
  refine lv_icmp_ge (tgt := 59) hx hb dX9_kindsRead_9 (by decide) (fun _ => ?_) (fun c1 => absurd c1 (by decide))
  refine lv_lload_n hx hb dX9_kindsRead_59 rfl (lv_at hl 2 rfl) ?_
  exact e_l F w hr hlocks ⟨rfl, rfl⟩ dX9_kindsRead_60
theorem dX9_linesRead_12 : decode cX9_linesRead 12 = .ok (.aload_n 0, 1) := by decide +kernel
theorem dX9_linesRead_13 : decode cX9_linesRead 13 = .ok (.getfield 28, 3) := by decide +kernel
theorem dX9_linesRead_16 : decode cX9_linesRead 16 = .ok (.iload_n 3, 1) := by decide +kernel
theorem dX9_linesRead_17 : decode cX9_linesRead 17 = .ok (.iaload, 1) := by decide +kernel
theorem dX9_linesRead_18 : decode cX9_linesRead 18 = .ok (.istore 4, 2) := by decide +kernel
theorem dX9_linesRead_20 : decode cX9_linesRead 20 = .ok (.iload 4, 2) := by decide +kernel
theorem dX9_linesRead_22 : decode cX9_linesRead 22 = .ok (.ifCond .eq 27, 3) := by decide +kernel
theorem dX9_linesRead_49 : decode cX9_linesRead 49 = .ok (.iinc 3 1, 3) := by decide +kernel
theorem dX9_linesRead_52 : decode cX9_linesRead 52 = .ok (.goto (-48), 3) := by decide +kernel
set_option maxRecDepth 4000 in
theorem c_X9_linesRead_382 {l : Launch} {D : va_G} {B : Nat} {cy : Nat → ClassId} {M : Mem} (h0 : M.1 138 0 = 1) (h1 : M.1 140 0 = 0) : Cl l D B cy yX9_linesRead cX9_linesRead 5 0 0 [.ref (B + 138)] M (fun r M1 => r = 0 ∧ M1 = M) := by
  refine s_any (by decide) (Nat.le_of_ble_eq_true rfl) ?_
  intro p e s m below meth c ls F hr hlocks w hl
  have F : CallFix p m c cX9_linesRead 5 s _ TB RX9 := F
  have hx := F.1
  have hb := F.2.1
  have hl : lv_has ls 5 [(0, .ref (B + 138))] := hl
  refine lv_lconst (v := 0) hx hb dX9_linesRead_0 (by decide) ?_
  refine lv_lstore_n (lv' := [(1, .long 0), (0, .ref (B + 138))]) hx hb dX9_linesRead_1 rfl hl (by decide) rfl (fun ls hl => ?_)
  refine lv_iconst (v := 0) hx hb dX9_linesRead_2 (by decide) ?_
  refine lv_istore_n (lv' := [(3, .int 0), (1, .long 0), (0, .ref (B + 138))]) hx hb dX9_linesRead_3 rfl hl (by decide) rfl (fun ls hl => ?_)
  refine lv_iload_n hx hb dX9_linesRead_4 rfl (lv_at hl 0 rfl) ?_
  refine lv_aload_n hx hb dX9_linesRead_5 rfl (lv_at hl 2 rfl) ?_
  refine f_9_0 F w (a := 138) rfl tb_63 dX9_linesRead_6 ?_
  refine r_val (v := 1) (h0) ?_
  refine lv_icmp_ge (tgt := 55) hx hb dX9_linesRead_9 (by decide) (fun c1 => absurd c1 (by decide)) (fun _ => ?_)
  refine lv_aload_n hx hb dX9_linesRead_12 rfl (lv_at hl 2 rfl) ?_
  refine f_9_5 F w (a := 138) rfl tb_68 dX9_linesRead_13 ?_
  refine lv_iload_n hx hb dX9_linesRead_16 rfl (lv_at hl 0 rfl) ?_
  refine g_iald F w (a := 140) rfl (j := 0) ⟨by decide, by decide⟩ (by decide) dX9_linesRead_17 ?_
  refine r_val (v := 0) (h1) ?_
  refine lv_istore (lv' := [(4, .int 0), (3, .int 0), (1, .long 0), (0, .ref (B + 138))]) hx hb dX9_linesRead_18 hl (by decide) rfl (fun ls hl => ?_)
  refine lv_iload hx hb dX9_linesRead_20 (lv_at hl 0 rfl) ?_
  refine lv_if_eq (tgt := 49) hx hb dX9_linesRead_22 (by decide) (fun _ => ?_) (fun c1 => absurd c1 (by decide))
  refine lv_iinc (v := 1) (lv' := [(3, .int 1), (4, .int 0), (1, .long 0), (0, .ref (B + 138))]) hx hb dX9_linesRead_49 hl (k := 1) rfl (by decide) (by decide) rfl (fun ls hl => ?_)
  refine lv_goto (tgt := 4) hx hb dX9_linesRead_52 (by decide) ?_
  refine lv_iload_n hx hb dX9_linesRead_4 rfl (lv_at hl 0 rfl) ?_
  refine lv_aload_n hx hb dX9_linesRead_5 rfl (lv_at hl 3 rfl) ?_
  refine f_9_0 F w (a := 138) rfl tb_63 dX9_linesRead_6 ?_
  refine r_val (v := 1) (h0) ?_
  refine lv_icmp_ge (tgt := 55) hx hb dX9_linesRead_9 (by decide) (fun _ => ?_) (fun c1 => absurd c1 (by decide))
  refine lv_lload_n hx hb dX9_linesRead_55 rfl (lv_at hl 2 rfl) ?_
  exact e_l F w hr hlocks ⟨rfl, rfl⟩ dX9_linesRead_56
set_option maxRecDepth 4000 in
theorem c_X9_clear_383 {l : Launch} {D : va_G} {B : Nat} {cy : Nat → ClassId} {M : Mem} (h0 : M.1 138 0 = 1) (h1 : M.1 138 1 = 0) (h2 : M.1 138 2 = 0) (h3 : M.1 138 3 = 0) : Cv l D B cy yX9_clear cX9_clear 1 0 0 [.ref (B + 138)] M (fun M1 => M1 = (st M 138 0 0)) := by
  refine s_any (by decide) (Nat.le_of_ble_eq_true rfl) ?_
  intro p e s m below meth c ls F hr hlocks w hl
  have F : CallFix p m c cX9_clear 1 s _ TB RX9 := F
  have hx := F.1
  have hb := F.2.1
  have hl : lv_has ls 1 [(0, .ref (B + 138))] := hl
  refine lv_aload_n hx hb dX9_clear_0 rfl (lv_at hl 0 rfl) ?_
  refine lv_iconst (v := 0) hx hb dX9_clear_1 (by decide) ?_
  refine u_9_0 F w (a := 138) rfl tb_63 dX9_clear_2 (fun H locs w => ?_)
  refine lv_aload_n hx hb dX9_clear_5 rfl (lv_at hl 0 rfl) ?_
  refine lv_iconst (v := 0) hx hb dX9_clear_6 (by decide) ?_
  refine u_9_1 F w (a := 138) rfl tb_64 dX9_clear_7 (fun H locs w => ?_)
  rw [st_same ((st_ne (by decide)).trans h1)] at w
  refine lv_aload_n hx hb dX9_clear_10 rfl (lv_at hl 0 rfl) ?_
  refine lv_iconst (v := 0) hx hb dX9_clear_11 (by decide) ?_
  refine u_9_2 F w (a := 138) rfl tb_65 dX9_clear_12 (fun H locs w => ?_)
  rw [st_same ((st_ne (by decide)).trans h2)] at w
  refine lv_aload_n hx hb dX9_clear_15 rfl (lv_at hl 0 rfl) ?_
  refine lv_iconst (v := 0) hx hb dX9_clear_16 (by decide) ?_
  refine u_9_3 F w (a := 138) rfl tb_66 dX9_clear_17 (fun H locs w => ?_)
  rw [st_same ((st_ne (by decide)).trans h3)] at w
  exact e_v F w hr hlocks rfl dX9_clear_20
set_option maxRecDepth 4000 in
theorem c_X9_insertTone_384 {l : Launch} {D : va_G} {B : Nat} {cy : Nat → ClassId} {M : Mem} {p2 : Int32} (h0 : M.1 138 0 = 0) (h1 : M.1 140 0 = 0) : Cv l D B cy yX9_insertTone cX9_insertTone 4 0 0 [.ref (B + 138), .int 0, .int p2] M (fun M1 => ∃ f, M1 = sA (st M 138 0 1) 139 f) := by
  refine s_any (by decide) (Nat.le_of_ble_eq_true rfl) ?_
  intro p e s m below meth c ls F hr hlocks w hl
  have F : CallFix p m c cX9_insertTone 4 s _ TB RX9 := F
  have hx := F.1
  have hb := F.2.1
  have hl : lv_has ls 4 [(0, .ref (B + 138)), (1, .int 0), (2, .int p2)] := hl
  refine lv_iload_n hx hb dX9_insertTone_0 rfl (lv_at hl 1 rfl) ?_
  refine lv_if_lt (tgt := 21) hx hb dX9_insertTone_1 (by decide) (fun c1 => absurd c1 (by decide)) (fun _ => ?_)
  refine lv_iload_n hx hb dX9_insertTone_4 rfl (lv_at hl 1 rfl) ?_
  refine lv_aload_n hx hb dX9_insertTone_5 rfl (lv_at hl 0 rfl) ?_
  refine f_9_0 F w (a := 138) rfl tb_63 dX9_insertTone_6 ?_
  refine r_val (v := 0) (h0) ?_
  refine lv_icmp_gt (tgt := 21) hx hb dX9_insertTone_9 (by decide) (fun c1 => absurd c1 (by decide)) (fun _ => ?_)
  refine lv_aload_n hx hb dX9_insertTone_12 rfl (lv_at hl 0 rfl) ?_
  refine f_9_0 F w (a := 138) rfl tb_63 dX9_insertTone_13 ?_
  refine r_val (v := 0) (h0) ?_
  refine lv_bipush (v := 12) hx hb dX9_insertTone_16 (by decide) ?_
  refine lv_icmp_lt (tgt := 22) hx hb dX9_insertTone_18 (by decide) (fun _ => ?_) (fun c1 => absurd c1 (by decide))
  refine lv_aload_n hx hb dX9_insertTone_22 rfl (lv_at hl 0 rfl) ?_
  refine f_9_0 F w (a := 138) rfl tb_63 dX9_insertTone_23 ?_
  refine r_val (v := 0) (h0) ?_
  refine lv_istore_n (lv' := [(3, .int 0), (0, .ref (B + 138)), (1, .int 0), (2, .int p2)]) hx hb dX9_insertTone_26 rfl hl (by decide) rfl (fun ls hl => ?_)
  refine lv_iload_n hx hb dX9_insertTone_27 rfl (lv_at hl 0 rfl) ?_
  refine lv_iload_n hx hb dX9_insertTone_28 rfl (lv_at hl 2 rfl) ?_
  refine lv_icmp_le (tgt := 66) hx hb dX9_insertTone_29 (by decide) (fun _ => ?_) (fun c1 => absurd c1 (by decide))
  refine lv_aload_n hx hb dX9_insertTone_66 rfl (lv_at hl 1 rfl) ?_
  refine f_9_4 F w (a := 138) rfl tb_67 dX9_insertTone_67 ?_
  refine lv_iload_n hx hb dX9_insertTone_70 rfl (lv_at hl 2 rfl) ?_
  refine lv_iload_n hx hb dX9_insertTone_71 rfl (lv_at hl 3 rfl) ?_
  refine g_iast F w (a := 139) rfl (j := 0) ⟨by decide, by decide⟩ (by decide) dX9_insertTone_72 (fun H locs w => ?_)
  obtain ⟨f21, w⟩ := hv_some w
  refine lv_aload_n hx hb dX9_insertTone_73 rfl (lv_at hl 1 rfl) ?_
  refine f_9_5 F w (a := 138) rfl tb_68 dX9_insertTone_74 ?_
  refine lv_iload_n hx hb dX9_insertTone_77 rfl (lv_at hl 2 rfl) ?_
  refine lv_iconst (v := 0) hx hb dX9_insertTone_78 (by decide) ?_
  refine g_iast F w (a := 140) rfl (j := 0) ⟨by decide, by decide⟩ (by decide) dX9_insertTone_79 (fun H locs w => ?_)
  rw [st_same ((sA_ne (by decide)).trans h1)] at w
  refine lv_aload_n hx hb dX9_insertTone_80 rfl (lv_at hl 1 rfl) ?_
  refine lv_dup hx hb dX9_insertTone_81 rfl ?_
  refine f_9_0 F w (a := 138) rfl tb_63 dX9_insertTone_82 ?_
  refine r_val (v := 0) ((sA_ne (by decide)).trans h0) ?_
  refine lv_iconst (v := 1) hx hb dX9_insertTone_85 (by decide) ?_
  refine lv_iadd hx hb dX9_insertTone_86 ?_
  refine r_val (v := 1) (by decide) ?_
  refine u_9_0 F w (a := 138) rfl tb_63 dX9_insertTone_87 (fun H locs w => ?_)
  exact e_v F w hr hlocks ⟨_, hv_ext (a := 139) (fun b hb => by simp [st, sA, hb]) rfl⟩ dX9_insertTone_90
set_option maxRecDepth 4000 in
theorem c_X6_layRow_385 {l : Launch} {D : va_G} {B : Nat} {cy : Nat → ClassId} {M : Mem} {p3 : Int32} (h0 : M.1 138 0 = 1) (h1 : M.1 138 1 = 0) (h2 : M.1 138 2 = 0) (h3 : M.1 138 3 = 0) (h4 : M.1 44 1 = 0) (h5 : M.1 44 2 = 0) (h6 : M.1 44 3 = 0) (h7 : M.1 140 0 = 0) : Cv l D B cy yX6_layRow cX6_layRow 6 1 23 [.ref (B + 135), .ref (B + 44), .int 1, .int p3] M (fun M1 => ∃ f, M1 = sA (st (st M 138 0 0) 138 0 1) 139 f) := by
  refine s_any (by decide) (Nat.le_of_ble_eq_true rfl) ?_
  intro p e s m below meth c ls F hr hlocks w hl
  have F : CallFix p m c cX6_layRow 6 s _ TB RX6 := F
  have hx := F.1
  have hb := F.2.1
  have hl : lv_has ls 6 [(0, .ref (B + 135)), (1, .ref (B + 44)), (2, .int 1), (3, .int p3)] := hl
  refine lv_aload_n hx hb dX6_layRow_0 rfl (lv_at hl 0 rfl) ?_
  refine f_6_3 F w (a := 135) rfl tb_111 dX6_layRow_1 ?_
  refine x_Vv F w (As := []) (rest := []) (a := 138) (by decide) (sh_9 rfl _ _) rfl (c_X9_clear_383 (h0) (h1) (h2) (h3)) gv_X6_62 hv_X9_clear ⟨Nat.le_of_ble_eq_true rfl, Nat.le_of_ble_eq_true rfl⟩ hl.1 rfl (Nat.le_of_ble_eq_true rfl) ⟨Nat.zero_le _, Nat.zero_le _⟩ dX6_layRow_4 (fun H locs w => ?_)
  refine lv_aload_n hx hb dX6_layRow_7 rfl (lv_at hl 0 rfl) ?_
  refine f_6_3 F w (a := 135) rfl tb_111 dX6_layRow_8 ?_
  refine lv_aload_n hx hb dX6_layRow_11 rfl (lv_at hl 1 rfl) ?_
  refine x_Vv F w (As := [.ref (B + 44)]) (rest := []) (a := 138) (by decide) (sh_9 rfl _ _) rfl (c_X9_copySyllables_370 ((st_ne (by decide)).trans h4) ((st_ne (by decide)).trans h1) ((st_ne (by decide)).trans h5) ((st_ne (by decide)).trans h2) ((st_ne (by decide)).trans h6) ((st_ne (by decide)).trans h3)) gv_X6_65 hv_X9_copySyllables ⟨Nat.le_of_ble_eq_true rfl, Nat.le_of_ble_eq_true rfl⟩ hl.1 rfl (Nat.le_of_ble_eq_true rfl) ⟨Nat.zero_le _, Nat.zero_le _⟩ dX6_layRow_12 (fun H locs w => ?_)
  refine lv_iload_n hx hb dX6_layRow_15 rfl (lv_at hl 3 rfl) ?_
  refine lv_istore (lv' := [(4, .int p3), (0, .ref (B + 135)), (1, .ref (B + 44)), (2, .int 1), (3, .int p3)]) hx hb dX6_layRow_16 hl (by decide) rfl (fun ls hl => ?_)
  refine lv_iconst (v := 0) hx hb dX6_layRow_18 (by decide) ?_
  refine lv_istore (lv' := [(5, .int 0), (4, .int p3), (0, .ref (B + 135)), (1, .ref (B + 44)), (2, .int 1), (3, .int p3)]) hx hb dX6_layRow_19 hl (by decide) rfl (fun ls hl => ?_)
  refine lv_iload hx hb dX6_layRow_21 (lv_at hl 0 rfl) ?_
  refine lv_iload_n hx hb dX6_layRow_23 rfl (lv_at hl 4 rfl) ?_
  refine lv_icmp_ge (tgt := 51) hx hb dX6_layRow_24 (by decide) (fun c1 => absurd c1 (by decide)) (fun _ => ?_)
  refine lv_aload_n hx hb dX6_layRow_27 rfl (lv_at hl 2 rfl) ?_
  refine f_6_3 F w (a := 135) rfl tb_111 dX6_layRow_28 ?_
  refine lv_iconst (v := 0) hx hb dX6_layRow_31 (by decide) ?_
  refine lv_iload hx hb dX6_layRow_32 (lv_at hl 1 rfl) ?_
  refine lv_iconst (v := 3) hx hb dX6_layRow_34 (by decide) ?_
  refine lv_irem hx hb dX6_layRow_35 (by decide) ?_
  refine k_Vv F w (As := [.int 0, .int (p3 - p3 / 3 * 3)]) (rest := []) (a := 138) (by decide) (sh_9 rfl _ _) rfl (c_X9_insertTone_384 (st_at) ((st_ne (by decide)).trans h7)) gv_X6_69 hv_X9_insertTone ⟨Nat.le_of_ble_eq_true rfl, Nat.le_of_ble_eq_true rfl⟩ hl.1 rfl (Nat.le_of_ble_eq_true rfl) ⟨Nat.zero_le _, Nat.zero_le _⟩ dX6_layRow_36 (fun M1 H locs hp w => ?_)
  obtain ⟨f21, hf⟩ := hp
  rw [hf] at w
  clear hf
  refine lv_iload hx hb dX6_layRow_39 (lv_at hl 1 rfl) ?_
  refine lv_iconst (v := 3) hx hb dX6_layRow_41 (by decide) ?_
  refine lv_idiv hx hb dX6_layRow_42 (by decide) ?_
  refine lv_istore (lv' := [(4, .int (p3 / 3)), (5, .int 0), (0, .ref (B + 135)), (1, .ref (B + 44)), (2, .int 1), (3, .int p3)]) hx hb dX6_layRow_43 hl (by decide) rfl (fun ls hl => ?_)
  refine lv_iinc (v := 1) (lv' := [(5, .int 1), (4, .int (p3 / 3)), (0, .ref (B + 135)), (1, .ref (B + 44)), (2, .int 1), (3, .int p3)]) hx hb dX6_layRow_45 hl (k := 1) rfl (by decide) (by decide) rfl (fun ls hl => ?_)
  refine lv_goto (tgt := 21) hx hb dX6_layRow_48 (by decide) ?_
  refine lv_iload hx hb dX6_layRow_21 (lv_at hl 0 rfl) ?_
  refine lv_iload_n hx hb dX6_layRow_23 rfl (lv_at hl 4 rfl) ?_
  refine lv_icmp_ge (tgt := 51) hx hb dX6_layRow_24 (by decide) (fun _ => ?_) (fun c1 => absurd c1 (by decide))
  exact e_v F w hr hlocks ⟨_, hv_ext (a := 139) (fun b hb => by simp [st, sA, hb]) rfl⟩ dX6_layRow_51
theorem dX6_bring_176 : decode cX6_bring 176 = .ok (.aload_n 0, 1) := by decide +kernel
theorem dX6_bring_177 : decode cX6_bring 177 = .ok (.getfield 19, 3) := by decide +kernel
theorem dX6_bring_180 : decode cX6_bring 180 = .ok (.iload_n 3, 1) := by decide +kernel
theorem dX6_bring_181 : decode cX6_bring 181 = .ok (.iaload, 1) := by decide +kernel
set_option maxRecDepth 8000 in
theorem bd_X6_bring_386 {p : Program} {l : Launch} {e : Env} {s : State} {m : MethodId} {args : Array Value} {below : List Frame} {meth : Method} {c : Code} {D : va_G} {B : Nat} {cy : Nat → ClassId} {H H0 : Heap} {locs : List Loc} {Q : State → Prop} {ls : Array Slot} {M : Mem} {k : Nat} (F : CallFix p m c cX6_bring 11 s args TB RX6) (w : Wd D B cy s H0 M H locs) (hl : lv_has ls 11 [(9, .int (nI k)), (7, .long 0), (5, .long 0), (4, .int 3), (0, .ref (B + 135)), (1, .ref (B + 22)), (2, .ref (B + 44)), (3, .int 1)]) (h0 : ¬ 3 ≤ (nI k)) (h1 : M.1 138 0 = 1) (h2 : M.1 138 1 = 0) (h3 : M.1 138 2 = 0) (h4 : M.1 138 3 = 0) (h5 : M.1 44 1 = 0) (h6 : M.1 44 2 = 0) (h7 : M.1 44 3 = 0) (h8 : M.1 140 0 = 0) (h9 : M.1 22 2 = 0) (h10 : M.1 136 1 = (nI k)) (h11 : ¬ (nI k) = 0) (h12 : M.1 137 1 = 0) (kk : ∀ (f : Nat → Int32) (H1 : Heap) (locs1 : List Loc) (ls1 : Array Slot), Wd D B cy s H0 (st (sA (st (st M 138 0 0) 138 0 1) 139 f) 136 1 (((nI k) + 1))) H1 locs1 → lv_has ls1 11 [(9, .int ((nI k) + 1)), (7, .long 0), (5, .long 0), (4, .int 3), (0, .ref (B + 135)), (1, .ref (B + 22)), (2, .ref (B + 44)), (3, .int 1)] → W p l e (rmm 2 48) s m args below meth c H1 locs1 0 0 Q (F0 m 76 ls1 [])) : W p l e (rmm 2 48) s m args below meth c H locs 0 0 Q (F0 m 76 ls []) := by
  have hx := F.1
  have hb := F.2.1
  refine lv_iload hx hb dX6_bring_76 (lv_at hl 0 rfl) ?_
  refine lv_iload hx hb dX6_bring_78 (lv_at hl 3 rfl) ?_
  refine lv_icmp_ge (tgt := 199) hx hb dX6_bring_80 (by decide) (fun c1 => absurd c1 h0) (fun _ => ?_)
  refine lv_aload_n hx hb dX6_bring_83 rfl (lv_at hl 4 rfl) ?_
  refine lv_aload_n hx hb dX6_bring_84 rfl (lv_at hl 5 rfl) ?_
  refine f_0_4 F w (a := 22) rfl tb_556 dX6_bring_85 ?_
  refine lv_iload_n hx hb dX6_bring_88 rfl (lv_at hl 7 rfl) ?_
  refine lv_iload hx hb dX6_bring_89 (lv_at hl 0 rfl) ?_
  refine k_Vv F w (As := [.ref (B + 44), .int 1, .int (nI k)]) (rest := []) (a := 135) (by decide) (sh_6 rfl _ _) rfl (c_X6_layRow_385 (h1) (h2) (h3) (h4) (h5) (h6) (h7) (h8)) gv_X6_41 hv_X6_layRow ⟨Nat.le_of_ble_eq_true rfl, Nat.le_of_ble_eq_true rfl⟩ hl.1 rfl (Nat.le_of_ble_eq_true rfl) ⟨Nat.zero_le _, Nat.zero_le _⟩ dX6_bring_91 (fun M1 H locs hp w => ?_)
  obtain ⟨f21, hf⟩ := hp
  rw [hf] at w
  clear hf
  refine lv_iconst (v := 0) hx hb dX6_bring_94 (by decide) ?_
  refine lv_istore (lv' := [(10, .int 0), (9, .int (nI k)), (7, .long 0), (5, .long 0), (4, .int 3), (0, .ref (B + 135)), (1, .ref (B + 22)), (2, .ref (B + 44)), (3, .int 1)]) hx hb dX6_bring_95 hl (by decide) rfl (fun ls hl => ?_)
  refine lv_iload hx hb dX6_bring_97 (lv_at hl 0 rfl) ?_
  refine lv_aload_n hx hb dX6_bring_99 rfl (lv_at hl 6 rfl) ?_
  refine f_0_2 F w (a := 22) rfl tb_562 dX6_bring_100 ?_
  refine r_val (v := 0) ((sA_ne (by decide)).trans ((st_ne (by decide)).trans ((st_ne (by decide)).trans h9))) ?_
  refine lv_icmp_ge (tgt := 131) hx hb dX6_bring_103 (by decide) (fun _ => ?_) (fun c1 => absurd c1 (by decide))
  refine lv_aload_n hx hb dX6_bring_131 rfl (lv_at hl 5 rfl) ?_
  refine f_6_3 F w (a := 135) rfl tb_111 dX6_bring_132 ?_
  refine x_Vl F w (As := []) (rest := []) (a := 138) (by decide) (sh_9 rfl _ _) rfl (c_X9_kindsRead_381 ((sA_ne (by decide)).trans st_at) ((sA_ne (by decide)).trans ((st_ne (by decide)).trans ((st_ne (by decide)).trans h8)))) gv_X6_29 hv_X9_kindsRead ⟨Nat.le_of_ble_eq_true rfl, Nat.le_of_ble_eq_true rfl⟩ hl.1 rfl (Nat.le_of_ble_eq_true rfl) ⟨Nat.zero_le _, Nat.zero_le _⟩ dX6_bring_135 (fun H locs w => ?_)
  refine lv_lload hx hb dX6_bring_138 (lv_at hl 3 rfl) ?_
  refine W.lcmp hx hb dX6_bring_140 ?_
  refine r_val (v := 0) (by decide) ?_
  refine lv_if_ne (tgt := 193) hx hb dX6_bring_141 (by decide) (fun c1 => absurd c1 (by decide)) (fun _ => ?_)
  refine lv_aload_n hx hb dX6_bring_144 rfl (lv_at hl 5 rfl) ?_
  refine f_6_3 F w (a := 135) rfl tb_111 dX6_bring_145 ?_
  refine x_Vl F w (As := []) (rest := []) (a := 138) (by decide) (sh_9 rfl _ _) rfl (c_X9_linesRead_382 ((sA_ne (by decide)).trans st_at) ((sA_ne (by decide)).trans ((st_ne (by decide)).trans ((st_ne (by decide)).trans h8)))) gv_X6_33 hv_X9_linesRead ⟨Nat.le_of_ble_eq_true rfl, Nat.le_of_ble_eq_true rfl⟩ hl.1 rfl (Nat.le_of_ble_eq_true rfl) ⟨Nat.zero_le _, Nat.zero_le _⟩ dX6_bring_148 (fun H locs w => ?_)
  refine lv_lload hx hb dX6_bring_151 (lv_at hl 2 rfl) ?_
  refine W.lcmp hx hb dX6_bring_153 ?_
  refine r_val (v := 0) (by decide) ?_
  refine lv_if_ne (tgt := 193) hx hb dX6_bring_154 (by decide) (fun c1 => absurd c1 (by decide)) (fun _ => ?_)
  refine lv_aload_n hx hb dX6_bring_157 rfl (lv_at hl 5 rfl) ?_
  refine f_6_2 F w (a := 135) rfl tb_109 dX6_bring_158 ?_
  refine lv_iload_n hx hb dX6_bring_161 rfl (lv_at hl 8 rfl) ?_
  refine lv_aload_n hx hb dX6_bring_162 rfl (lv_at hl 5 rfl) ?_
  refine f_6_1 F w (a := 135) rfl tb_108 dX6_bring_163 ?_
  refine lv_iload_n hx hb dX6_bring_166 rfl (lv_at hl 8 rfl) ?_
  refine g_iald F w (a := 136) rfl (j := 1) ⟨by decide, by decide⟩ (by decide) dX6_bring_167 ?_
  refine r_val (v := (nI k)) ((sA_ne (by decide)).trans ((st_ne (by decide)).trans ((st_ne (by decide)).trans h10))) ?_
  refine lv_if_ne (tgt := 176) hx hb dX6_bring_168 (by decide) (fun _ => ?_) (fun c1 => absurd c1 h11)
  refine lv_aload_n hx hb dX6_bring_176 rfl (lv_at hl 5 rfl) ?_
  refine f_6_2 F w (a := 135) rfl tb_109 dX6_bring_177 ?_
  refine lv_iload_n hx hb dX6_bring_180 rfl (lv_at hl 8 rfl) ?_
  refine g_iald F w (a := 137) rfl (j := 1) ⟨by decide, by decide⟩ (by decide) dX6_bring_181 ?_
  refine r_val (v := 0) ((sA_ne (by decide)).trans ((st_ne (by decide)).trans ((st_ne (by decide)).trans h12))) ?_
  refine g_iast F w (a := 137) rfl (j := 1) ⟨by decide, by decide⟩ (by decide) dX6_bring_182 (fun H locs w => ?_)
  rw [st_same ((sA_ne (by decide)).trans ((st_ne (by decide)).trans ((st_ne (by decide)).trans h12)))] at w
  refine lv_aload_n hx hb dX6_bring_183 rfl (lv_at hl 5 rfl) ?_
  refine f_6_1 F w (a := 135) rfl tb_108 dX6_bring_184 ?_
  refine lv_iload_n hx hb dX6_bring_187 rfl (lv_at hl 8 rfl) ?_
  refine lv_dup2_11 hx hb dX6_bring_188 rfl rfl ?_
  refine g_iald F w (a := 136) rfl (j := 1) ⟨by decide, by decide⟩ (by decide) dX6_bring_189 ?_
  refine r_val (v := (nI k)) ((sA_ne (by decide)).trans ((st_ne (by decide)).trans ((st_ne (by decide)).trans h10))) ?_
  refine lv_iconst (v := 1) hx hb dX6_bring_190 (by decide) ?_
  refine lv_iadd hx hb dX6_bring_191 ?_
  refine g_iast F w (a := 136) rfl (j := 1) ⟨by decide, by decide⟩ (by decide) dX6_bring_192 (fun H locs w => ?_)
  refine lv_iinc (v := ((nI k) + 1)) (lv' := [(9, .int ((nI k) + 1)), (10, .int 0), (7, .long 0), (5, .long 0), (4, .int 3), (0, .ref (B + 135)), (1, .ref (B + 22)), (2, .ref (B + 44)), (3, .int 1)]) hx hb dX6_bring_193 hl (k := 1) rfl rfl (by decide) rfl (fun ls hl => ?_)
  refine lv_goto (tgt := 76) hx hb dX6_bring_196 (by decide) ?_
  exact kk _ _ _ _ w (lv_sub hl [0, 2, 3, 4, 5, 6, 7, 8] rfl)
